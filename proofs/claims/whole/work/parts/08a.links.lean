theorem jk_10_8 : jm_lk 10 8 = (5, 7, 0, 0) := by decide +kernel
theorem jk_10_15 : jm_lk 10 15 = (3, 0, 0, 0) := by decide +kernel
theorem jk_7_1 : jm_lk 7 1 = (4, 0, 0, 0) := by decide +kernel
theorem jk_7_7 : jm_lk 7 7 = (5, 5, 0, 0) := by decide +kernel
theorem jk_7_11 : jm_lk 7 11 = (3, 1, 2, 0) := by decide +kernel
theorem jk_5_1 : jm_lk 5 1 = (4, 0, 0, 0) := by decide +kernel
theorem jk_5_16 : jm_lk 5 16 = (0, 5, 0, 1) := by decide +kernel
theorem jk_5_13 : jm_lk 5 13 = (0, 5, 1, 1) := by decide +kernel
theorem jk_5_7 : jm_lk 5 7 = (0, 5, 2, 1) := by decide +kernel
theorem jk_5_20 : jm_lk 5 20 = (0, 5, 3, 0) := by decide +kernel
theorem jk_7_18 : jm_lk 7 18 = (5, 1, 0, 0) := by decide +kernel
theorem jk_7_20 : jm_lk 7 20 = (3, 2, 0, 0) := by decide +kernel
theorem jk_1_3 : jm_lk 1 3 = (4, 0, 0, 0) := by decide +kernel
theorem jk_1_9 : jm_lk 1 9 = (5, 5, 0, 0) := by decide +kernel
theorem jk_1_13 : jm_lk 1 13 = (3, 1, 2, 0) := by decide +kernel
theorem jk_1_41 : jm_lk 1 41 = (1, 3, 0, 0) := by decide +kernel
theorem jk_1_44 : jm_lk 1 44 = (1, 4, 1, 0) := by decide +kernel
theorem jk_5_35 : jm_lk 5 35 = (2, 5, 2, 0) := by decide +kernel
theorem jk_1_16 : jm_lk 1 16 = (0, 1, 0, 1) := by decide +kernel
theorem jk_7_137 : jm_lk 7 137 = (0, 1, 0, 1) := by decide +kernel
theorem jk_3_188 : jm_lk 3 188 = (0, 1, 0, 1) := by decide +kernel
theorem jk_0_173 : jm_lk 0 173 = (0, 1, 0, 1) := by decide +kernel
theorem jk_1_20 : jm_lk 1 20 = (0, 1, 1, 1) := by decide +kernel
theorem jk_3_107 : jm_lk 3 107 = (0, 1, 1, 1) := by decide +kernel
theorem jk_7_302 : jm_lk 7 302 = (0, 1, 1, 1) := by decide +kernel
theorem jk_1_23 : jm_lk 1 23 = (0, 1, 2, 1) := by decide +kernel
theorem jk_0_52 : jm_lk 0 52 = (0, 1, 2, 1) := by decide +kernel
theorem jk_3_211 : jm_lk 3 211 = (0, 1, 2, 1) := by decide +kernel
theorem jk_1_26 : jm_lk 1 26 = (0, 1, 3, 1) := by decide +kernel
theorem jk_4_86 : jm_lk 4 86 = (0, 1, 3, 1) := by decide +kernel
theorem jk_3_145 : jm_lk 3 145 = (0, 1, 3, 1) := by decide +kernel
theorem jk_0_230 : jm_lk 0 230 = (0, 1, 3, 1) := by decide +kernel
theorem jk_7_299 : jm_lk 7 299 = (0, 1, 3, 1) := by decide +kernel
theorem jk_1_29 : jm_lk 1 29 = (0, 1, 4, 1) := by decide +kernel
theorem jk_4_55 : jm_lk 4 55 = (0, 1, 4, 1) := by decide +kernel
theorem jk_3_148 : jm_lk 3 148 = (0, 1, 4, 1) := by decide +kernel
theorem jk_1_32 : jm_lk 1 32 = (0, 1, 5, 1) := by decide +kernel
theorem jk_3_151 : jm_lk 3 151 = (0, 1, 5, 1) := by decide +kernel
theorem jk_0_139 : jm_lk 0 139 = (0, 1, 5, 1) := by decide +kernel
theorem jk_7_349 : jm_lk 7 349 = (0, 1, 5, 1) := by decide +kernel
theorem jk_1_35 : jm_lk 1 35 = (0, 1, 6, 1) := by decide +kernel
theorem jk_0_196 : jm_lk 0 196 = (0, 1, 6, 1) := by decide +kernel
theorem jk_1_38 : jm_lk 1 38 = (0, 1, 7, 1) := by decide +kernel
theorem jk_0_221 : jm_lk 0 221 = (0, 1, 7, 1) := by decide +kernel
theorem jk_1_48 : jm_lk 1 48 = (0, 1, 8, 0) := by decide +kernel
theorem jk_3_129 : jm_lk 3 129 = (0, 1, 8, 0) := by decide +kernel
theorem jk_7_338 : jm_lk 7 338 = (0, 1, 8, 0) := by decide +kernel
theorem jk_1_52 : jm_lk 1 52 = (0, 1, 9, 0) := by decide +kernel
theorem jk_3_182 : jm_lk 3 182 = (0, 1, 9, 0) := by decide +kernel
theorem jk_7_340 : jm_lk 7 340 = (0, 1, 9, 0) := by decide +kernel
theorem jk_1_55 : jm_lk 1 55 = (0, 1, 10, 0) := by decide +kernel
theorem jk_3_171 : jm_lk 3 171 = (0, 1, 10, 0) := by decide +kernel
theorem jk_0_192 : jm_lk 0 192 = (0, 1, 10, 0) := by decide +kernel
theorem jk_7_343 : jm_lk 7 343 = (0, 1, 10, 0) := by decide +kernel
theorem jk_1_59 : jm_lk 1 59 = (0, 1, 11, 0) := by decide +kernel
theorem jk_3_179 : jm_lk 3 179 = (0, 1, 11, 0) := by decide +kernel
theorem jk_4_103 : jm_lk 4 103 = (0, 1, 11, 0) := by decide +kernel
theorem jk_7_346 : jm_lk 7 346 = (0, 1, 11, 0) := by decide +kernel
theorem jk_1_62 : jm_lk 1 62 = (0, 1, 12, 0) := by decide +kernel
theorem jk_4_90 : jm_lk 4 90 = (0, 1, 12, 0) := by decide +kernel
theorem jk_3_139 : jm_lk 3 139 = (0, 1, 12, 0) := by decide +kernel
theorem jk_1_65 : jm_lk 1 65 = (0, 1, 13, 0) := by decide +kernel
theorem jk_3_199 : jm_lk 3 199 = (0, 1, 13, 0) := by decide +kernel
theorem jk_1_68 : jm_lk 1 68 = (0, 1, 14, 0) := by decide +kernel
theorem jk_3_142 : jm_lk 3 142 = (0, 1, 14, 0) := by decide +kernel
theorem jk_0_218 : jm_lk 0 218 = (0, 1, 14, 0) := by decide +kernel
theorem jk_7_257 : jm_lk 7 257 = (0, 1, 14, 0) := by decide +kernel
theorem jk_1_71 : jm_lk 1 71 = (0, 1, 15, 0) := by decide +kernel
theorem jk_4_89 : jm_lk 4 89 = (0, 1, 15, 0) := by decide +kernel
theorem jk_3_113 : jm_lk 3 113 = (0, 1, 15, 0) := by decide +kernel
theorem jk_1_74 : jm_lk 1 74 = (0, 1, 16, 0) := by decide +kernel
theorem jk_4_68 : jm_lk 4 68 = (0, 1, 16, 0) := by decide +kernel
theorem jk_3_116 : jm_lk 3 116 = (0, 1, 16, 0) := by decide +kernel
theorem jk_1_77 : jm_lk 1 77 = (0, 1, 17, 0) := by decide +kernel
theorem jk_4_78 : jm_lk 4 78 = (0, 1, 17, 0) := by decide +kernel
theorem jk_3_249 : jm_lk 3 249 = (0, 1, 17, 0) := by decide +kernel
theorem jk_7_28 : jm_lk 7 28 = (5, 3, 0, 0) := by decide +kernel
theorem jk_7_30 : jm_lk 7 30 = (3, 6, 2, 0) := by decide +kernel
theorem jk_3_3 : jm_lk 3 3 = (4, 0, 0, 0) := by decide +kernel
theorem jk_3_9 : jm_lk 3 9 = (5, 5, 0, 0) := by decide +kernel
theorem jk_3_11 : jm_lk 3 11 = (3, 1, 2, 0) := by decide +kernel
theorem jk_3_20 : jm_lk 3 20 = (0, 3, 0, 1) := by decide +kernel
theorem jk_3_23 : jm_lk 3 23 = (0, 3, 1, 1) := by decide +kernel
theorem jk_3_14 : jm_lk 3 14 = (0, 3, 2, 1) := by decide +kernel
theorem jk_3_31 : jm_lk 3 31 = (0, 3, 3, 0) := by decide +kernel
theorem jk_3_70 : jm_lk 3 70 = (0, 3, 4, 0) := by decide +kernel
theorem jk_3_80 : jm_lk 3 80 = (0, 3, 5, 0) := by decide +kernel
theorem jk_3_95 : jm_lk 3 95 = (0, 3, 6, 0) := by decide +kernel
theorem jk_3_255 : jm_lk 3 255 = (0, 3, 7, 0) := by decide +kernel
theorem jk_3_162 : jm_lk 3 162 = (0, 3, 8, 0) := by decide +kernel
theorem jk_3_219 : jm_lk 3 219 = (0, 3, 9, 0) := by decide +kernel
theorem jk_3_98 : jm_lk 3 98 = (0, 3, 10, 0) := by decide +kernel
theorem jk_7_107 : jm_lk 7 107 = (0, 3, 10, 0) := by decide +kernel
theorem jk_3_101 : jm_lk 3 101 = (0, 3, 11, 0) := by decide +kernel
theorem jk_7_108 : jm_lk 7 108 = (0, 3, 11, 0) := by decide +kernel
theorem jk_7_37 : jm_lk 7 37 = (5, 4, 0, 0) := by decide +kernel
theorem jk_7_39 : jm_lk 7 39 = (3, 7, 0, 0) := by decide +kernel
theorem jk_4_3 : jm_lk 4 3 = (4, 0, 0, 0) := by decide +kernel
theorem jk_4_9 : jm_lk 4 9 = (5, 5, 0, 0) := by decide +kernel
theorem jk_4_11 : jm_lk 4 11 = (3, 1, 2, 0) := by decide +kernel
theorem jk_4_14 : jm_lk 4 14 = (0, 4, 0, 1) := by decide +kernel
theorem jk_0_107 : jm_lk 0 107 = (0, 4, 0, 1) := by decide +kernel
theorem jk_7_152 : jm_lk 7 152 = (0, 4, 0, 1) := by decide +kernel
theorem jk_4_20 : jm_lk 4 20 = (0, 4, 1, 1) := by decide +kernel
theorem jk_7_127 : jm_lk 7 127 = (0, 4, 1, 1) := by decide +kernel
theorem jk_0_149 : jm_lk 0 149 = (0, 4, 1, 1) := by decide +kernel
theorem jk_4_23 : jm_lk 4 23 = (0, 4, 2, 1) := by decide +kernel
theorem jk_7_161 : jm_lk 7 161 = (0, 4, 2, 1) := by decide +kernel
theorem jk_0_233 : jm_lk 0 233 = (0, 4, 2, 1) := by decide +kernel
theorem jk_4_34 : jm_lk 4 34 = (0, 4, 3, 0) := by decide +kernel
theorem jk_0_88 : jm_lk 0 88 = (0, 4, 3, 0) := by decide +kernel
theorem jk_7_249 : jm_lk 7 249 = (0, 4, 3, 0) := by decide +kernel
theorem jk_4_37 : jm_lk 4 37 = (0, 4, 4, 0) := by decide +kernel
theorem jk_7_240 : jm_lk 7 240 = (0, 4, 4, 0) := by decide +kernel
theorem jk_4_40 : jm_lk 4 40 = (0, 4, 5, 0) := by decide +kernel
theorem jk_0_127 : jm_lk 0 127 = (0, 4, 5, 0) := by decide +kernel
theorem jk_7_226 : jm_lk 7 226 = (0, 4, 5, 0) := by decide +kernel
theorem jk_4_43 : jm_lk 4 43 = (0, 4, 6, 0) := by decide +kernel
theorem jk_0_186 : jm_lk 0 186 = (0, 4, 6, 0) := by decide +kernel
theorem jk_7_352 : jm_lk 7 352 = (0, 4, 6, 0) := by decide +kernel
theorem jk_4_46 : jm_lk 4 46 = (0, 4, 7, 0) := by decide +kernel
theorem jk_0_130 : jm_lk 0 130 = (0, 4, 7, 0) := by decide +kernel
theorem jk_4_49 : jm_lk 4 49 = (0, 4, 8, 0) := by decide +kernel
theorem jk_4_52 : jm_lk 4 52 = (0, 4, 9, 0) := by decide +kernel
theorem jk_0_81 : jm_lk 0 81 = (0, 4, 9, 0) := by decide +kernel
theorem jk_7_164 : jm_lk 7 164 = (0, 4, 9, 0) := by decide +kernel
theorem jk_4_26 : jm_lk 4 26 = (0, 4, 10, 0) := by decide +kernel
theorem jk_7_243 : jm_lk 7 243 = (0, 4, 10, 0) := by decide +kernel
theorem jk_7_47 : jm_lk 7 47 = (5, 0, 0, 0) := by decide +kernel
theorem jk_7_49 : jm_lk 7 49 = (3, 8, 1, 0) := by decide +kernel
theorem jk_0_3 : jm_lk 0 3 = (4, 0, 0, 0) := by decide +kernel
theorem jk_0_9 : jm_lk 0 9 = (5, 4, 0, 0) := by decide +kernel
theorem jk_0_11 : jm_lk 0 11 = (3, 7, 0, 0) := by decide +kernel
theorem jk_0_18 : jm_lk 0 18 = (5, 5, 0, 0) := by decide +kernel
theorem jk_0_20 : jm_lk 0 20 = (3, 1, 2, 0) := by decide +kernel
theorem jk_0_41 : jm_lk 0 41 = (0, 0, 0, 1) := by decide +kernel
theorem jk_0_12 : jm_lk 0 12 = (0, 0, 1, 1) := by decide +kernel
theorem jk_7_170 : jm_lk 7 170 = (0, 0, 1, 1) := by decide +kernel
theorem jk_0_23 : jm_lk 0 23 = (0, 0, 2, 1) := by decide +kernel
theorem jk_7_176 : jm_lk 7 176 = (0, 0, 2, 1) := by decide +kernel
theorem jk_0_27 : jm_lk 0 27 = (0, 0, 3, 1) := by decide +kernel
theorem jk_7_321 : jm_lk 7 321 = (0, 0, 3, 1) := by decide +kernel
theorem jk_0_30 : jm_lk 0 30 = (0, 0, 4, 1) := by decide +kernel
theorem jk_0_35 : jm_lk 0 35 = (0, 0, 5, 1) := by decide +kernel
theorem jk_0_38 : jm_lk 0 38 = (0, 0, 6, 1) := by decide +kernel
theorem jk_0_56 : jm_lk 0 56 = (0, 0, 7, 0) := by decide +kernel
theorem jk_7_214 : jm_lk 7 214 = (0, 0, 7, 0) := by decide +kernel
theorem jk_0_60 : jm_lk 0 60 = (0, 0, 8, 0) := by decide +kernel
theorem jk_0_63 : jm_lk 0 63 = (0, 0, 9, 0) := by decide +kernel
theorem jk_0_66 : jm_lk 0 66 = (0, 0, 10, 0) := by decide +kernel
theorem jk_7_187 : jm_lk 7 187 = (0, 0, 10, 0) := by decide +kernel
theorem jk_0_69 : jm_lk 0 69 = (0, 0, 11, 0) := by decide +kernel
theorem jk_7_190 : jm_lk 7 190 = (0, 0, 11, 0) := by decide +kernel
theorem jk_0_72 : jm_lk 0 72 = (0, 0, 12, 0) := by decide +kernel
theorem jk_7_329 : jm_lk 7 329 = (0, 0, 12, 0) := by decide +kernel
theorem jk_0_75 : jm_lk 0 75 = (0, 0, 13, 0) := by decide +kernel
theorem jk_7_193 : jm_lk 7 193 = (0, 0, 13, 0) := by decide +kernel
theorem jk_0_78 : jm_lk 0 78 = (0, 0, 14, 0) := by decide +kernel
theorem jk_7_196 : jm_lk 7 196 = (0, 0, 14, 0) := by decide +kernel
theorem jk_7_56 : jm_lk 7 56 = (5, 6, 0, 0) := by decide +kernel
theorem jk_7_58 : jm_lk 7 58 = (3, 9, 1, 0) := by decide +kernel
theorem jk_6_1 : jm_lk 6 1 = (4, 0, 0, 0) := by decide +kernel
theorem jk_6_7 : jm_lk 6 7 = (5, 4, 0, 0) := by decide +kernel
theorem jk_6_15 : jm_lk 6 15 = (3, 7, 0, 0) := by decide +kernel
theorem jk_6_9 : jm_lk 6 9 = (0, 6, 0, 1) := by decide +kernel
theorem jk_6_16 : jm_lk 6 16 = (0, 6, 1, 0) := by decide +kernel
theorem jk_6_20 : jm_lk 6 20 = (0, 6, 2, 0) := by decide +kernel
theorem jk_7_68 : jm_lk 7 68 = (5, 2, 0, 0) := by decide +kernel
theorem jk_7_70 : jm_lk 7 70 = (3, 10, 0, 0) := by decide +kernel
theorem jk_2_1 : jm_lk 2 1 = (4, 0, 0, 0) := by decide +kernel
theorem jk_2_7 : jm_lk 2 7 = (5, 5, 0, 0) := by decide +kernel
theorem jk_2_9 : jm_lk 2 9 = (3, 1, 2, 0) := by decide +kernel
theorem jk_2_12 : jm_lk 2 12 = (0, 2, 0, 1) := by decide +kernel
theorem jk_7_326 : jm_lk 7 326 = (0, 2, 0, 1) := by decide +kernel
theorem jk_2_18 : jm_lk 2 18 = (0, 2, 1, 1) := by decide +kernel
theorem jk_7_223 : jm_lk 7 223 = (0, 2, 1, 1) := by decide +kernel
theorem jk_7_14 : jm_lk 7 14 = (0, 7, 0, 1) := by decide +kernel
theorem jk_7_21 : jm_lk 7 21 = (0, 7, 1, 1) := by decide +kernel
theorem jk_7_25 : jm_lk 7 25 = (0, 7, 2, 1) := by decide +kernel
theorem jk_7_33 : jm_lk 7 33 = (0, 7, 3, 1) := by decide +kernel
theorem jk_7_40 : jm_lk 7 40 = (0, 7, 4, 1) := by decide +kernel
theorem jk_7_44 : jm_lk 7 44 = (0, 7, 5, 1) := by decide +kernel
theorem jk_7_52 : jm_lk 7 52 = (0, 7, 6, 1) := by decide +kernel
theorem jk_7_61 : jm_lk 7 61 = (0, 7, 7, 1) := by decide +kernel
theorem jk_7_65 : jm_lk 7 65 = (0, 7, 8, 1) := by decide +kernel
theorem jk_7_71 : jm_lk 7 71 = (0, 7, 9, 1) := by decide +kernel
theorem jk_7_75 : jm_lk 7 75 = (0, 7, 10, 1) := by decide +kernel
theorem jk_7_78 : jm_lk 7 78 = (0, 7, 11, 0) := by decide +kernel
theorem jk_7_82 : jm_lk 7 82 = (0, 7, 12, 0) := by decide +kernel
theorem jk_7_86 : jm_lk 7 86 = (0, 7, 13, 0) := by decide +kernel
theorem jk_7_89 : jm_lk 7 89 = (0, 7, 14, 0) := by decide +kernel
theorem jk_10_19 : jm_lk 10 19 = (1, 11, 5, 0) := by decide +kernel
theorem jk_7_92 : jm_lk 7 92 = (1, 12, 0, 0) := by decide +kernel
theorem jk_7_96 : jm_lk 7 96 = (1, 13, 1, 0) := by decide +kernel
theorem jk_7_318 : jm_lk 7 318 = (1, 14, 1, 0) := by decide +kernel
theorem jk_5_23 : jm_lk 5 23 = (1, 15, 1, 0) := by decide +kernel
theorem jk_5_31 : jm_lk 5 31 = (1, 16, 2, 0) := by decide +kernel
theorem jk_5_27 : jm_lk 5 27 = (1, 17, 3, 0) := by decide +kernel
theorem jk_10_24 : jm_lk 10 24 = (1, 18, 1, 0) := by decide +kernel
theorem jk_7_99 : jm_lk 7 99 = (1, 19, 1, 0) := by decide +kernel
theorem jk_7_103 : jm_lk 7 103 = (1, 20, 1, 0) := by decide +kernel
theorem jk_3_27 : jm_lk 3 27 = (1, 21, 1, 0) := by decide +kernel
theorem jk_3_87 : jm_lk 3 87 = (1, 3, 0, 0) := by decide +kernel
theorem jk_3_92 : jm_lk 3 92 = (1, 4, 1, 0) := by decide +kernel
theorem jk_3_104 : jm_lk 3 104 = (1, 22, 0, 0) := by decide +kernel
theorem jk_3_184 : jm_lk 3 184 = (1, 23, 2, 0) := by decide +kernel
theorem jk_3_267 : jm_lk 3 267 = (2, 5, 2, 0) := by decide +kernel
theorem jk_3_272 : jm_lk 3 272 = (1, 24, 1, 0) := by decide +kernel
theorem jk_3_35 : jm_lk 3 35 = (1, 25, 0, 0) := by decide +kernel
theorem jk_3_119 : jm_lk 3 119 = (7, 2, 0, 0) := by decide +kernel
theorem jk_3_121 : jm_lk 3 121 = (1, 26, 1, 0) := by decide +kernel
theorem jk_3_258 : jm_lk 3 258 = (11, 0, 0, 0) := by decide +kernel
theorem jk_3_263 : jm_lk 3 263 = (12, 0, 0, 0) := by decide +kernel
theorem jk_3_125 : jm_lk 3 125 = (1, 27, 1, 0) := by decide +kernel
theorem jk_3_132 : jm_lk 3 132 = (1, 28, 0, 0) := by decide +kernel
theorem jk_1_84 : jm_lk 1 84 = (1, 12, 0, 0) := by decide +kernel
theorem jk_3_135 : jm_lk 3 135 = (1, 29, 1, 0) := by decide +kernel
theorem jk_3_110 : jm_lk 3 110 = (1, 12, 0, 0) := by decide +kernel
theorem jk_3_83 : jm_lk 3 83 = (1, 30, 2, 0) := by decide +kernel
theorem jk_3_39 : jm_lk 3 39 = (1, 31, 0, 0) := by decide +kernel
theorem jk_3_154 : jm_lk 3 154 = (7, 3, 0, 0) := by decide +kernel
theorem jk_3_155 : jm_lk 3 155 = (1, 32, 1, 0) := by decide +kernel
theorem jk_3_159 : jm_lk 3 159 = (1, 33, 2, 0) := by decide +kernel
theorem jk_3_165 : jm_lk 3 165 = (7, 4, 0, 0) := by decide +kernel
theorem jk_3_167 : jm_lk 3 167 = (7, 5, 0, 0) := by decide +kernel
theorem jk_3_169 : jm_lk 3 169 = (7, 6, 0, 0) := by decide +kernel
theorem jk_3_175 : jm_lk 3 175 = (7, 7, 0, 0) := by decide +kernel
theorem jk_3_177 : jm_lk 3 177 = (7, 8, 0, 0) := by decide +kernel
theorem jk_3_43 : jm_lk 3 43 = (1, 34, 0, 0) := by decide +kernel
theorem jk_3_191 : jm_lk 3 191 = (1, 14, 1, 0) := by decide +kernel
theorem jk_3_46 : jm_lk 3 46 = (1, 35, 0, 0) := by decide +kernel
theorem jk_3_194 : jm_lk 3 194 = (1, 36, 0, 0) := by decide +kernel
theorem jk_3_76 : jm_lk 3 76 = (1, 37, 1, 0) := by decide +kernel
theorem jk_3_252 : jm_lk 3 252 = (1, 38, 2, 0) := by decide +kernel
theorem jk_3_197 : jm_lk 3 197 = (7, 9, 0, 0) := by decide +kernel
theorem jk_3_49 : jm_lk 3 49 = (1, 39, 0, 0) := by decide +kernel
theorem jk_3_52 : jm_lk 3 52 = (1, 40, 0, 0) := by decide +kernel
theorem jk_3_201 : jm_lk 3 201 = (1, 41, 1, 0) := by decide +kernel
theorem jk_3_209 : jm_lk 3 209 = (7, 10, 0, 0) := by decide +kernel
theorem jk_3_55 : jm_lk 3 55 = (1, 42, 0, 0) := by decide +kernel
theorem jk_3_205 : jm_lk 3 205 = (7, 11, 0, 0) := by decide +kernel
theorem jk_3_58 : jm_lk 3 58 = (1, 43, 0, 0) := by decide +kernel
theorem jk_3_214 : jm_lk 3 214 = (1, 44, 0, 0) := by decide +kernel
theorem jk_3_234 : jm_lk 3 234 = (1, 45, 2, 0) := by decide +kernel
theorem jk_3_222 : jm_lk 3 222 = (1, 17, 3, 0) := by decide +kernel
theorem jk_3_217 : jm_lk 3 217 = (7, 12, 0, 0) := by decide +kernel
theorem jk_3_226 : jm_lk 3 226 = (7, 13, 0, 0) := by decide +kernel
theorem jk_3_228 : jm_lk 3 228 = (1, 46, 3, 0) := by decide +kernel
theorem jk_3_237 : jm_lk 3 237 = (7, 14, 0, 0) := by decide +kernel
theorem jk_3_239 : jm_lk 3 239 = (7, 15, 0, 0) := by decide +kernel
theorem jk_3_241 : jm_lk 3 241 = (7, 16, 0, 0) := by decide +kernel
theorem jk_3_232 : jm_lk 3 232 = (7, 17, 0, 0) := by decide +kernel
theorem jk_3_61 : jm_lk 3 61 = (1, 47, 0, 0) := by decide +kernel
theorem jk_3_64 : jm_lk 3 64 = (1, 48, 0, 0) := by decide +kernel
theorem jk_3_243 : jm_lk 3 243 = (1, 49, 1, 0) := by decide +kernel
theorem jk_1_92 : jm_lk 1 92 = (1, 23, 2, 0) := by decide +kernel
theorem jk_3_246 : jm_lk 3 246 = (1, 50, 2, 0) := by decide +kernel
theorem jk_1_88 : jm_lk 1 88 = (1, 38, 2, 0) := by decide +kernel
theorem jk_3_67 : jm_lk 3 67 = (1, 51, 0, 0) := by decide +kernel
theorem jk_3_73 : jm_lk 3 73 = (1, 52, 0, 0) := by decide +kernel
theorem jk_7_109 : jm_lk 7 109 = (1, 4, 1, 0) := by decide +kernel
theorem jk_7_112 : jm_lk 7 112 = (1, 53, 1, 0) := by decide +kernel
theorem jk_1_80 : jm_lk 1 80 = (1, 54, 1, 0) := by decide +kernel
theorem jk_5_41 : jm_lk 5 41 = (13, 0, 0, 0) := by decide +kernel
theorem jk_7_115 : jm_lk 7 115 = (1, 55, 0, 0) := by decide +kernel
theorem jk_1_95 : jm_lk 1 95 = (1, 56, 2, 0) := by decide +kernel
theorem jk_1_98 : jm_lk 1 98 = (1, 50, 2, 0) := by decide +kernel
theorem jk_1_101 : jm_lk 1 101 = (1, 49, 1, 0) := by decide +kernel
theorem jk_1_105 : jm_lk 1 105 = (1, 17, 3, 0) := by decide +kernel
theorem jk_1_109 : jm_lk 1 109 = (1, 57, 2, 0) := by decide +kernel
theorem jk_1_113 : jm_lk 1 113 = (1, 58, 3, 0) := by decide +kernel
theorem jk_7_118 : jm_lk 7 118 = (1, 59, 1, 0) := by decide +kernel
theorem jk_4_60 : jm_lk 4 60 = (1, 12, 0, 0) := by decide +kernel
theorem jk_4_64 : jm_lk 4 64 = (1, 4, 1, 0) := by decide +kernel
theorem jk_4_71 : jm_lk 4 71 = (1, 14, 1, 0) := by decide +kernel
theorem jk_4_74 : jm_lk 4 74 = (1, 17, 3, 0) := by decide +kernel
theorem jk_4_79 : jm_lk 4 79 = (1, 50, 2, 0) := by decide +kernel
theorem jk_4_83 : jm_lk 4 83 = (1, 23, 2, 0) := by decide +kernel
theorem jk_7_121 : jm_lk 7 121 = (1, 60, 1, 0) := by decide +kernel
theorem jk_4_30 : jm_lk 4 30 = (1, 54, 1, 0) := by decide +kernel
theorem jk_7_124 : jm_lk 7 124 = (1, 61, 0, 0) := by decide +kernel
theorem jk_7_130 : jm_lk 7 130 = (1, 62, 1, 0) := by decide +kernel
theorem jk_10_28 : jm_lk 10 28 = (1, 63, 0, 0) := by decide +kernel
theorem jk_10_33 : jm_lk 10 33 = (1, 64, 0, 0) := by decide +kernel
theorem jk_10_37 : jm_lk 10 37 = (1, 65, 2, 0) := by decide +kernel
theorem jk_7_133 : jm_lk 7 133 = (1, 66, 2, 0) := by decide +kernel
theorem jk_7_320 : jm_lk 7 320 = (1, 38, 2, 0) := by decide +kernel
theorem jk_7_140 : jm_lk 7 140 = (1, 23, 2, 0) := by decide +kernel
theorem jk_10_42 : jm_lk 10 42 = (1, 67, 0, 0) := by decide +kernel
theorem jk_10_46 : jm_lk 10 46 = (1, 68, 2, 0) := by decide +kernel
theorem jk_7_143 : jm_lk 7 143 = (1, 69, 1, 0) := by decide +kernel
theorem jk_7_146 : jm_lk 7 146 = (1, 70, 1, 0) := by decide +kernel
theorem jk_7_149 : jm_lk 7 149 = (1, 71, 1, 0) := by decide +kernel
theorem jk_10_50 : jm_lk 10 50 = (1, 72, 2, 0) := by decide +kernel
theorem jk_10_54 : jm_lk 10 54 = (1, 73, 1, 0) := by decide +kernel
theorem jk_10_58 : jm_lk 10 58 = (1, 74, 0, 0) := by decide +kernel
theorem jk_10_62 : jm_lk 10 62 = (1, 75, 0, 0) := by decide +kernel
theorem jk_7_155 : jm_lk 7 155 = (1, 76, 1, 0) := by decide +kernel
theorem jk_10_66 : jm_lk 10 66 = (1, 77, 1, 0) := by decide +kernel
theorem jk_7_158 : jm_lk 7 158 = (1, 78, 1, 0) := by decide +kernel
theorem jk_10_70 : jm_lk 10 70 = (1, 79, 0, 0) := by decide +kernel
theorem jk_10_74 : jm_lk 10 74 = (1, 80, 1, 0) := by decide +kernel
theorem jk_7_167 : jm_lk 7 167 = (1, 81, 1, 0) := by decide +kernel
theorem jk_7_211 : jm_lk 7 211 = (1, 82, 1, 0) := by decide +kernel
theorem jk_0_45 : jm_lk 0 45 = (1, 60, 1, 0) := by decide +kernel
theorem jk_0_49 : jm_lk 0 49 = (1, 56, 2, 0) := by decide +kernel
theorem jk_0_53 : jm_lk 0 53 = (1, 54, 1, 0) := by decide +kernel
theorem jk_7_217 : jm_lk 7 217 = (1, 83, 1, 0) := by decide +kernel
theorem jk_0_84 : jm_lk 0 84 = (1, 84, 0, 0) := by decide +kernel
theorem jk_0_171 : jm_lk 0 171 = (1, 85, 1, 0) := by decide +kernel
theorem jk_0_91 : jm_lk 0 91 = (1, 86, 1, 0) := by decide +kernel
theorem jk_0_110 : jm_lk 0 110 = (1, 12, 0, 0) := by decide +kernel
theorem jk_0_176 : jm_lk 0 176 = (1, 87, 2, 0) := by decide +kernel
theorem jk_4_95 : jm_lk 4 95 = (1, 56, 2, 0) := by decide +kernel
theorem jk_4_98 : jm_lk 4 98 = (1, 70, 1, 0) := by decide +kernel
theorem jk_0_180 : jm_lk 0 180 = (1, 88, 0, 0) := by decide +kernel
theorem jk_0_156 : jm_lk 0 156 = (1, 70, 1, 0) := by decide +kernel
theorem jk_0_142 : jm_lk 0 142 = (1, 23, 2, 0) := by decide +kernel
theorem jk_0_167 : jm_lk 0 167 = (1, 17, 3, 0) := by decide +kernel
theorem jk_0_183 : jm_lk 0 183 = (1, 89, 0, 0) := by decide +kernel
theorem jk_0_199 : jm_lk 0 199 = (1, 90, 0, 0) := by decide +kernel
theorem jk_0_215 : jm_lk 0 215 = (1, 91, 0, 0) := by decide +kernel
theorem jk_4_102 : jm_lk 4 102 = (8, 0, 0, 65537) := by decide +kernel
theorem jk_0_202 : jm_lk 0 202 = (1, 92, 0, 0) := by decide +kernel
theorem jk_0_205 : jm_lk 0 205 = (1, 93, 0, 0) := by decide +kernel
theorem jk_0_208 : jm_lk 0 208 = (1, 94, 0, 0) := by decide +kernel
theorem jk_0_211 : jm_lk 0 211 = (10, 0, 0, 0) := by decide +kernel
theorem jk_0_124 : jm_lk 0 124 = (1, 14, 1, 0) := by decide +kernel
theorem jk_0_189 : jm_lk 0 189 = (1, 95, 2, 0) := by decide +kernel
theorem jk_0_95 : jm_lk 0 95 = (1, 96, 0, 0) := by decide +kernel
theorem jk_0_224 : jm_lk 0 224 = (1, 97, 2, 0) := by decide +kernel
theorem jk_4_91 : jm_lk 4 91 = (1, 76, 1, 0) := by decide +kernel
theorem jk_0_98 : jm_lk 0 98 = (1, 98, 0, 0) := by decide +kernel
theorem jk_0_159 : jm_lk 0 159 = (1, 71, 1, 0) := by decide +kernel
theorem jk_0_116 : jm_lk 0 116 = (1, 4, 1, 0) := by decide +kernel
theorem jk_0_101 : jm_lk 0 101 = (1, 99, 0, 0) := by decide +kernel
theorem jk_0_227 : jm_lk 0 227 = (1, 100, 1, 0) := by decide +kernel
theorem jk_0_104 : jm_lk 0 104 = (1, 101, 0, 0) := by decide +kernel
theorem jk_0_236 : jm_lk 0 236 = (1, 102, 1, 0) := by decide +kernel
theorem jk_0_239 : jm_lk 0 239 = (1, 103, 3, 0) := by decide +kernel
theorem jk_4_107 : jm_lk 4 107 = (1, 15, 1, 0) := by decide +kernel
theorem jk_10_78 : jm_lk 10 78 = (1, 104, 2, 0) := by decide +kernel
theorem jk_7_173 : jm_lk 7 173 = (1, 105, 1, 0) := by decide +kernel
theorem jk_10_82 : jm_lk 10 82 = (1, 106, 2, 0) := by decide +kernel
theorem jk_10_86 : jm_lk 10 86 = (1, 107, 1, 0) := by decide +kernel
theorem jk_7_179 : jm_lk 7 179 = (1, 108, 1, 0) := by decide +kernel
theorem jk_10_90 : jm_lk 10 90 = (1, 109, 1, 0) := by decide +kernel
theorem jk_7_182 : jm_lk 7 182 = (2, 110, 2, 0) := by decide +kernel
theorem jk_10_94 : jm_lk 10 94 = (1, 111, 1, 0) := by decide +kernel
theorem jk_10_98 : jm_lk 10 98 = (1, 112, 1, 0) := by decide +kernel
theorem jk_10_102 : jm_lk 10 102 = (1, 113, 1, 0) := by decide +kernel
theorem jk_10_106 : jm_lk 10 106 = (1, 114, 1, 0) := by decide +kernel
theorem jk_10_110 : jm_lk 10 110 = (1, 115, 2, 0) := by decide +kernel
theorem jk_7_199 : jm_lk 7 199 = (1, 116, 3, 0) := by decide +kernel
theorem jk_0_113 : jm_lk 0 113 = (1, 82, 1, 0) := by decide +kernel
theorem jk_0_133 : jm_lk 0 133 = (1, 83, 1, 0) := by decide +kernel
theorem jk_0_136 : jm_lk 0 136 = (1, 117, 0, 0) := by decide +kernel
theorem jk_0_162 : jm_lk 0 162 = (2, 110, 2, 0) := by decide +kernel
theorem jk_7_203 : jm_lk 7 203 = (1, 118, 1, 0) := by decide +kernel
theorem jk_10_114 : jm_lk 10 114 = (1, 119, 2, 0) := by decide +kernel
theorem jk_7_206 : jm_lk 7 206 = (2, 120, 2, 0) := by decide +kernel
theorem jk_10_118 : jm_lk 10 118 = (1, 121, 0, 0) := by decide +kernel
theorem jk_10_122 : jm_lk 10 122 = (1, 122, 0, 0) := by decide +kernel
theorem jk_7_220 : jm_lk 7 220 = (1, 123, 0, 0) := by decide +kernel
theorem jk_7_324 : jm_lk 7 324 = (1, 124, 1, 0) := by decide +kernel
theorem jk_2_21 : jm_lk 2 21 = (1, 4, 1, 0) := by decide +kernel
theorem jk_2_25 : jm_lk 2 25 = (1, 14, 1, 0) := by decide +kernel
theorem jk_2_28 : jm_lk 2 28 = (1, 54, 1, 0) := by decide +kernel
theorem jk_7_280 : jm_lk 7 280 = (1, 125, 3, 0) := by decide +kernel
theorem jk_7_332 : jm_lk 7 332 = (1, 54, 1, 0) := by decide +kernel
theorem jk_7_335 : jm_lk 7 335 = (1, 126, 0, 0) := by decide +kernel
theorem jk_2_32 : jm_lk 2 32 = (1, 12, 0, 0) := by decide +kernel
theorem jk_2_36 : jm_lk 2 36 = (1, 23, 2, 0) := by decide +kernel
theorem jk_2_40 : jm_lk 2 40 = (1, 127, 2, 0) := by decide +kernel
theorem jk_2_43 : jm_lk 2 43 = (1, 17, 3, 0) := by decide +kernel
theorem jk_10_126 : jm_lk 10 126 = (1, 128, 1, 0) := by decide +kernel
theorem jk_10_130 : jm_lk 10 130 = (1, 129, 1, 0) := by decide +kernel
theorem jk_10_134 : jm_lk 10 134 = (1, 130, 1, 0) := by decide +kernel
theorem jk_7_229 : jm_lk 7 229 = (1, 131, 1, 0) := by decide +kernel
theorem jk_7_232 : jm_lk 7 232 = (1, 132, 3, 0) := by decide +kernel
theorem jk_0_120 : jm_lk 0 120 = (1, 133, 3, 0) := by decide +kernel
theorem jk_10_138 : jm_lk 10 138 = (1, 134, 2, 0) := by decide +kernel
theorem jk_7_235 : jm_lk 7 235 = (1, 133, 3, 0) := by decide +kernel
theorem jk_10_142 : jm_lk 10 142 = (1, 135, 3, 0) := by decide +kernel
theorem jk_7_239 : jm_lk 7 239 = (8, 0, 0, 65537) := by decide +kernel
theorem jk_10_147 : jm_lk 10 147 = (1, 136, 2, 0) := by decide +kernel
theorem jk_7_246 : jm_lk 7 246 = (1, 137, 2, 0) := by decide +kernel
theorem jk_1_117 : jm_lk 1 117 = (2, 138, 1, 0) := by decide +kernel
theorem jk_10_151 : jm_lk 10 151 = (1, 139, 0, 0) := by decide +kernel
theorem jk_7_252 : jm_lk 7 252 = (1, 85, 1, 0) := by decide +kernel
theorem jk_10_155 : jm_lk 10 155 = (1, 140, 0, 0) := by decide +kernel
theorem jk_7_254 : jm_lk 7 254 = (1, 141, 1, 0) := by decide +kernel
theorem jk_10_159 : jm_lk 10 159 = (1, 142, 0, 0) := by decide +kernel
theorem jk_10_163 : jm_lk 10 163 = (1, 143, 0, 0) := by decide +kernel
theorem jk_7_260 : jm_lk 7 260 = (1, 87, 2, 0) := by decide +kernel
theorem jk_7_264 : jm_lk 7 264 = (1, 57, 2, 0) := by decide +kernel
theorem jk_10_167 : jm_lk 10 167 = (1, 144, 0, 0) := by decide +kernel
theorem jk_7_267 : jm_lk 7 267 = (1, 145, 1, 0) := by decide +kernel
theorem jk_0_146 : jm_lk 0 146 = (1, 146, 1, 0) := by decide +kernel
theorem jk_0_152 : jm_lk 0 152 = (1, 105, 1, 0) := by decide +kernel
theorem jk_10_171 : jm_lk 10 171 = (1, 147, 1, 0) := by decide +kernel
theorem jk_7_270 : jm_lk 7 270 = (1, 148, 1, 0) := by decide +kernel
theorem jk_6_23 : jm_lk 6 23 = (1, 149, 0, 0) := by decide +kernel
theorem jk_6_27 : jm_lk 6 27 = (1, 150, 1, 0) := by decide +kernel
theorem jk_6_39 : jm_lk 6 39 = (2, 151, 2, 0) := by decide +kernel
theorem jk_6_31 : jm_lk 6 31 = (1, 60, 1, 0) := by decide +kernel
theorem jk_10_175 : jm_lk 10 175 = (1, 152, 1, 0) := by decide +kernel
theorem jk_7_273 : jm_lk 7 273 = (1, 153, 1, 0) := by decide +kernel
theorem jk_7_276 : jm_lk 7 276 = (1, 154, 0, 0) := by decide +kernel
theorem jk_10_180 : jm_lk 10 180 = (1, 155, 2, 0) := by decide +kernel
theorem jk_10_185 : jm_lk 10 185 = (1, 156, 1, 0) := by decide +kernel
theorem jk_7_284 : jm_lk 7 284 = (1, 100, 1, 0) := by decide +kernel
theorem jk_10_189 : jm_lk 10 189 = (1, 157, 2, 0) := by decide +kernel
theorem jk_10_193 : jm_lk 10 193 = (1, 158, 1, 0) := by decide +kernel
theorem jk_10_197 : jm_lk 10 197 = (1, 159, 0, 0) := by decide +kernel
theorem jk_7_287 : jm_lk 7 287 = (1, 160, 1, 0) := by decide +kernel
theorem jk_6_35 : jm_lk 6 35 = (1, 161, 2, 0) := by decide +kernel
theorem jk_10_202 : jm_lk 10 202 = (1, 162, 0, 0) := by decide +kernel
theorem jk_7_291 : jm_lk 7 291 = (1, 149, 0, 0) := by decide +kernel
theorem jk_7_294 : jm_lk 7 294 = (1, 163, 0, 0) := by decide +kernel
theorem jk_10_206 : jm_lk 10 206 = (1, 164, 1, 0) := by decide +kernel
theorem jk_7_295 : jm_lk 7 295 = (1, 161, 2, 0) := by decide +kernel
theorem jk_10_210 : jm_lk 10 210 = (1, 165, 2, 0) := by decide +kernel
theorem jk_10_214 : jm_lk 10 214 = (1, 166, 1, 0) := by decide +kernel
theorem jk_10_227 : jm_lk 10 227 = (1, 167, 1, 0) := by decide +kernel
theorem jk_7_312 : jm_lk 7 312 = (1, 168, 1, 0) := by decide +kernel
theorem jk_7_315 : jm_lk 7 315 = (1, 169, 1, 0) := by decide +kernel
theorem jk_10_231 : jm_lk 10 231 = (1, 170, 0, 0) := by decide +kernel
theorem jk_10_218 : jm_lk 10 218 = (16, 0, 0, 0) := by decide +kernel
theorem jk_10_7 : jm_lk 10 7 = (1, 171, 1, 0) := by decide +kernel
theorem jk_7_305 : jm_lk 7 305 = (14, 0, 0, 0) := by decide +kernel
theorem jk_10_16 : jm_lk 10 16 = (5, 9, 0, 0) := by decide +kernel
theorem jk_10_18 : jm_lk 10 18 = (3, 172, 0, 0) := by decide +kernel
theorem jk_9_3 : jm_lk 9 3 = (4, 0, 0, 0) := by decide +kernel
theorem jk_9_54 : jm_lk 9 54 = (0, 9, 0, 0) := by decide +kernel
theorem jk_9_57 : jm_lk 9 57 = (0, 9, 1, 0) := by decide +kernel
theorem jk_9_9 : jm_lk 9 9 = (0, 9, 2, 0) := by decide +kernel
theorem jk_9_389 : jm_lk 9 389 = (0, 9, 3, 0) := by decide +kernel
theorem jk_9_150 : jm_lk 9 150 = (0, 9, 4, 0) := by decide +kernel
theorem jk_9_13 : jm_lk 9 13 = (0, 9, 5, 1) := by decide +kernel
theorem jk_9_382 : jm_lk 9 382 = (0, 9, 6, 0) := by decide +kernel
theorem jk_9_67 : jm_lk 9 67 = (0, 9, 7, 0) := by decide +kernel
theorem jk_9_85 : jm_lk 9 85 = (0, 9, 8, 0) := by decide +kernel
theorem jk_9_82 : jm_lk 9 82 = (0, 9, 9, 0) := by decide +kernel
theorem jk_9_91 : jm_lk 9 91 = (0, 9, 10, 0) := by decide +kernel
theorem jk_9_94 : jm_lk 9 94 = (0, 9, 11, 0) := by decide +kernel
theorem jk_9_111 : jm_lk 9 111 = (0, 9, 12, 0) := by decide +kernel
theorem jk_9_105 : jm_lk 9 105 = (0, 9, 13, 0) := by decide +kernel
theorem jk_9_114 : jm_lk 9 114 = (0, 9, 14, 0) := by decide +kernel
theorem jk_9_117 : jm_lk 9 117 = (0, 9, 15, 0) := by decide +kernel
theorem jk_9_17 : jm_lk 9 17 = (0, 9, 16, 1) := by decide +kernel
theorem jk_9_101 : jm_lk 9 101 = (0, 9, 17, 0) := by decide +kernel
theorem jk_9_21 : jm_lk 9 21 = (0, 9, 18, 1) := by decide +kernel
theorem jk_9_24 : jm_lk 9 24 = (0, 9, 19, 1) := by decide +kernel
theorem jk_9_27 : jm_lk 9 27 = (0, 9, 20, 1) := by decide +kernel
theorem jk_9_30 : jm_lk 9 30 = (0, 9, 21, 1) := by decide +kernel
theorem jk_9_395 : jm_lk 9 395 = (0, 9, 22, 0) := by decide +kernel
theorem jk_9_398 : jm_lk 9 398 = (0, 9, 23, 0) := by decide +kernel
theorem jk_9_33 : jm_lk 9 33 = (0, 9, 24, 1) := by decide +kernel
theorem jk_9_36 : jm_lk 9 36 = (0, 9, 25, 1) := by decide +kernel
theorem jk_9_480 : jm_lk 9 480 = (0, 9, 26, 0) := by decide +kernel
theorem jk_9_446 : jm_lk 9 446 = (0, 9, 27, 0) := by decide +kernel
theorem jk_9_39 : jm_lk 9 39 = (0, 9, 28, 1) := by decide +kernel
theorem jk_9_42 : jm_lk 9 42 = (0, 9, 29, 1) := by decide +kernel
theorem jk_9_474 : jm_lk 9 474 = (0, 9, 30, 0) := by decide +kernel
theorem jk_9_461 : jm_lk 9 461 = (0, 9, 31, 0) := by decide +kernel
theorem jk_9_472 : jm_lk 9 472 = (0, 9, 32, 0) := by decide +kernel
theorem jk_9_526 : jm_lk 9 526 = (0, 9, 33, 0) := by decide +kernel
theorem jk_9_45 : jm_lk 9 45 = (0, 9, 34, 1) := by decide +kernel
theorem jk_9_48 : jm_lk 9 48 = (0, 9, 35, 1) := by decide +kernel
theorem jk_9_51 : jm_lk 9 51 = (0, 9, 36, 1) := by decide +kernel
theorem jk_9_538 : jm_lk 9 538 = (0, 9, 37, 0) := by decide +kernel
theorem jk_9_554 : jm_lk 9 554 = (0, 9, 38, 0) := by decide +kernel
theorem jk_9_551 : jm_lk 9 551 = (0, 9, 39, 0) := by decide +kernel
theorem jk_10_224 : jm_lk 10 224 = (1, 173, 0, 0) := by decide +kernel
theorem jk_10_23 : jm_lk 10 23 = (1, 174, 5, 0) := by decide +kernel
theorem jk_10_27 : jm_lk 10 27 = (1, 175, 1, 0) := by decide +kernel
theorem jk_9_60 : jm_lk 9 60 = (1, 176, 1, 0) := by decide +kernel
theorem jk_9_155 : jm_lk 9 155 = (5, 8, 0, 0) := by decide +kernel
theorem jk_9_385 : jm_lk 9 385 = (3, 177, 0, 0) := by decide +kernel
theorem jk_8_3 : jm_lk 8 3 = (4, 0, 0, 0) := by decide +kernel
theorem jk_8_74 : jm_lk 8 74 = (0, 8, 0, 0) := by decide +kernel
theorem jk_9_154 : jm_lk 9 154 = (0, 8, 0, 0) := by decide +kernel
theorem jk_8_77 : jm_lk 8 77 = (0, 8, 1, 0) := by decide +kernel
theorem jk_9_161 : jm_lk 9 161 = (0, 8, 1, 0) := by decide +kernel
theorem jk_9_268 : jm_lk 9 268 = (0, 8, 2, 0) := by decide +kernel
theorem jk_9_311 : jm_lk 9 311 = (0, 8, 3, 0) := by decide +kernel
theorem jk_9_351 : jm_lk 9 351 = (0, 8, 4, 0) := by decide +kernel
theorem jk_9_206 : jm_lk 9 206 = (0, 8, 5, 0) := by decide +kernel
theorem jk_9_305 : jm_lk 9 305 = (0, 8, 6, 0) := by decide +kernel
theorem jk_8_9 : jm_lk 8 9 = (0, 8, 7, 0) := by decide +kernel
theorem jk_9_209 : jm_lk 9 209 = (0, 8, 7, 0) := by decide +kernel
theorem jk_9_370 : jm_lk 9 370 = (0, 8, 8, 0) := by decide +kernel
theorem jk_8_15 : jm_lk 8 15 = (0, 8, 10, 0) := by decide +kernel
theorem jk_9_278 : jm_lk 9 278 = (0, 8, 10, 0) := by decide +kernel
theorem jk_9_285 : jm_lk 9 285 = (0, 8, 11, 0) := by decide +kernel
theorem jk_8_18 : jm_lk 8 18 = (0, 8, 12, 0) := by decide +kernel
theorem jk_9_287 : jm_lk 9 287 = (0, 8, 12, 0) := by decide +kernel
theorem jk_8_21 : jm_lk 8 21 = (0, 8, 13, 0) := by decide +kernel
theorem jk_9_212 : jm_lk 9 212 = (0, 8, 13, 0) := by decide +kernel
theorem jk_9_367 : jm_lk 9 367 = (0, 8, 14, 0) := by decide +kernel
theorem jk_9_263 : jm_lk 9 263 = (0, 8, 15, 0) := by decide +kernel
theorem jk_9_266 : jm_lk 9 266 = (0, 8, 16, 0) := by decide +kernel
theorem jk_8_24 : jm_lk 8 24 = (0, 8, 17, 1) := by decide +kernel
theorem jk_9_275 : jm_lk 9 275 = (0, 8, 17, 1) := by decide +kernel
theorem jk_8_28 : jm_lk 8 28 = (0, 8, 18, 1) := by decide +kernel
theorem jk_9_335 : jm_lk 9 335 = (0, 8, 18, 1) := by decide +kernel
theorem jk_8_31 : jm_lk 8 31 = (0, 8, 19, 1) := by decide +kernel
theorem jk_9_338 : jm_lk 9 338 = (0, 8, 19, 1) := by decide +kernel
theorem jk_8_34 : jm_lk 8 34 = (0, 8, 20, 1) := by decide +kernel
theorem jk_9_340 : jm_lk 9 340 = (0, 8, 20, 1) := by decide +kernel
theorem jk_8_37 : jm_lk 8 37 = (0, 8, 21, 1) := by decide +kernel
theorem jk_9_343 : jm_lk 9 343 = (0, 8, 21, 1) := by decide +kernel
theorem jk_8_40 : jm_lk 8 40 = (0, 8, 22, 1) := by decide +kernel
theorem jk_9_346 : jm_lk 9 346 = (0, 8, 22, 1) := by decide +kernel
theorem jk_8_43 : jm_lk 8 43 = (0, 8, 23, 1) := by decide +kernel
theorem jk_9_349 : jm_lk 9 349 = (0, 8, 23, 1) := by decide +kernel
theorem jk_8_46 : jm_lk 8 46 = (0, 8, 24, 1) := by decide +kernel
theorem jk_9_354 : jm_lk 9 354 = (0, 8, 24, 1) := by decide +kernel
theorem jk_8_49 : jm_lk 8 49 = (0, 8, 25, 1) := by decide +kernel
theorem jk_9_357 : jm_lk 9 357 = (0, 8, 25, 1) := by decide +kernel
theorem jk_8_52 : jm_lk 8 52 = (0, 8, 26, 1) := by decide +kernel
theorem jk_9_359 : jm_lk 9 359 = (0, 8, 26, 1) := by decide +kernel
theorem jk_8_55 : jm_lk 8 55 = (0, 8, 27, 1) := by decide +kernel
theorem jk_9_289 : jm_lk 9 289 = (0, 8, 27, 1) := by decide +kernel
theorem jk_8_58 : jm_lk 8 58 = (0, 8, 28, 1) := by decide +kernel
theorem jk_9_308 : jm_lk 9 308 = (0, 8, 28, 1) := by decide +kernel
theorem jk_8_61 : jm_lk 8 61 = (0, 8, 29, 1) := by decide +kernel
theorem jk_9_373 : jm_lk 9 373 = (0, 8, 29, 1) := by decide +kernel
theorem jk_8_64 : jm_lk 8 64 = (0, 8, 30, 1) := by decide +kernel
theorem jk_9_376 : jm_lk 9 376 = (0, 8, 30, 1) := by decide +kernel
theorem jk_8_67 : jm_lk 8 67 = (0, 8, 31, 1) := by decide +kernel
theorem jk_9_379 : jm_lk 9 379 = (0, 8, 31, 1) := by decide +kernel
theorem jk_8_70 : jm_lk 8 70 = (0, 8, 32, 1) := by decide +kernel
theorem jk_9_318 : jm_lk 9 318 = (0, 8, 32, 1) := by decide +kernel
theorem jk_9_124 : jm_lk 9 124 = (1, 178, 0, 0) := by decide +kernel
theorem jk_9_88 : jm_lk 9 88 = (1, 179, 1, 0) := by decide +kernel
theorem jk_9_97 : jm_lk 9 97 = (2, 180, 1, 0) := by decide +kernel
theorem jk_9_76 : jm_lk 9 76 = (9, 0, 0, 32) := by decide +kernel
theorem jk_9_108 : jm_lk 9 108 = (2, 181, 1, 0) := by decide +kernel
theorem jk_9_386 : jm_lk 9 386 = (1, 182, 0, 0) := by decide +kernel
theorem jk_9_200 : jm_lk 9 200 = (1, 183, 0, 0) := by decide +kernel
theorem jk_9_164 : jm_lk 9 164 = (7, 18, 0, 0) := by decide +kernel
theorem jk_9_127 : jm_lk 9 127 = (1, 184, 1, 0) := by decide +kernel
theorem jk_9_120 : jm_lk 9 120 = (2, 185, 1, 0) := by decide +kernel
theorem jk_9_70 : jm_lk 9 70 = (11, 0, 0, 0) := by decide +kernel
theorem jk_9_78 : jm_lk 9 78 = (12, 0, 0, 0) := by decide +kernel
theorem jk_9_215 : jm_lk 9 215 = (1, 186, 0, 0) := by decide +kernel
theorem jk_9_131 : jm_lk 9 131 = (1, 187, 1, 0) := by decide +kernel
theorem jk_9_245 : jm_lk 9 245 = (7, 3, 0, 0) := by decide +kernel
theorem jk_9_246 : jm_lk 9 246 = (1, 188, 3, 0) := by decide +kernel
theorem jk_9_143 : jm_lk 9 143 = (1, 189, 1, 0) := by decide +kernel
theorem jk_9_147 : jm_lk 9 147 = (1, 190, 2, 0) := by decide +kernel
theorem jk_9_139 : jm_lk 9 139 = (1, 191, 2, 0) := by decide +kernel
theorem jk_9_135 : jm_lk 9 135 = (2, 192, 3, 0) := by decide +kernel
theorem jk_9_250 : jm_lk 9 250 = (7, 4, 0, 0) := by decide +kernel
theorem jk_9_251 : jm_lk 9 251 = (7, 5, 0, 0) := by decide +kernel
theorem jk_9_253 : jm_lk 9 253 = (7, 19, 0, 0) := by decide +kernel
theorem jk_9_255 : jm_lk 9 255 = (7, 20, 0, 0) := by decide +kernel
theorem jk_9_257 : jm_lk 9 257 = (7, 7, 0, 0) := by decide +kernel
theorem jk_9_259 : jm_lk 9 259 = (7, 21, 0, 0) := by decide +kernel
theorem jk_9_261 : jm_lk 9 261 = (7, 22, 0, 0) := by decide +kernel
theorem jk_9_166 : jm_lk 9 166 = (7, 23, 0, 0) := by decide +kernel
theorem jk_9_218 : jm_lk 9 218 = (1, 193, 0, 0) := by decide +kernel
theorem jk_9_271 : jm_lk 9 271 = (1, 194, 3, 0) := by decide +kernel
theorem jk_9_168 : jm_lk 9 168 = (7, 24, 0, 0) := by decide +kernel
theorem jk_9_221 : jm_lk 9 221 = (1, 195, 0, 0) := by decide +kernel
theorem jk_9_280 : jm_lk 9 280 = (1, 196, 0, 0) := by decide +kernel
theorem jk_9_158 : jm_lk 9 158 = (1, 197, 1, 0) := by decide +kernel
theorem jk_9_283 : jm_lk 9 283 = (7, 9, 0, 0) := by decide +kernel
theorem jk_9_170 : jm_lk 9 170 = (7, 25, 0, 0) := by decide +kernel
theorem jk_9_224 : jm_lk 9 224 = (1, 198, 0, 0) := by decide +kernel
theorem jk_9_172 : jm_lk 9 172 = (7, 26, 0, 0) := by decide +kernel
theorem jk_9_227 : jm_lk 9 227 = (1, 199, 0, 0) := by decide +kernel
theorem jk_9_203 : jm_lk 9 203 = (1, 200, 1, 0) := by decide +kernel
theorem jk_9_174 : jm_lk 9 174 = (7, 27, 0, 0) := by decide +kernel
theorem jk_9_230 : jm_lk 9 230 = (1, 201, 0, 0) := by decide +kernel
theorem jk_9_292 : jm_lk 9 292 = (7, 28, 0, 0) := by decide +kernel
theorem jk_9_294 : jm_lk 9 294 = (7, 29, 0, 0) := by decide +kernel
theorem jk_9_296 : jm_lk 9 296 = (7, 30, 0, 0) := by decide +kernel
theorem jk_9_298 : jm_lk 9 298 = (7, 31, 0, 0) := by decide +kernel
theorem jk_9_300 : jm_lk 9 300 = (7, 32, 0, 0) := by decide +kernel
theorem jk_9_302 : jm_lk 9 302 = (1, 202, 0, 0) := by decide +kernel
theorem jk_9_184 : jm_lk 9 184 = (7, 33, 0, 0) := by decide +kernel
theorem jk_9_186 : jm_lk 9 186 = (7, 34, 0, 0) := by decide +kernel
theorem jk_9_188 : jm_lk 9 188 = (7, 35, 0, 0) := by decide +kernel
theorem jk_9_190 : jm_lk 9 190 = (7, 36, 0, 0) := by decide +kernel
theorem jk_9_176 : jm_lk 9 176 = (7, 37, 0, 0) := by decide +kernel
theorem jk_9_233 : jm_lk 9 233 = (1, 203, 0, 0) := by decide +kernel
theorem jk_9_314 : jm_lk 9 314 = (1, 204, 0, 0) := by decide +kernel
theorem jk_9_178 : jm_lk 9 178 = (7, 38, 0, 0) := by decide +kernel
theorem jk_9_180 : jm_lk 9 180 = (7, 39, 0, 0) := by decide +kernel
theorem jk_9_182 : jm_lk 9 182 = (7, 40, 0, 0) := by decide +kernel
theorem jk_9_322 : jm_lk 9 322 = (7, 12, 0, 0) := by decide +kernel
theorem jk_9_324 : jm_lk 9 324 = (7, 13, 0, 0) := by decide +kernel
theorem jk_9_326 : jm_lk 9 326 = (1, 205, 0, 0) := by decide +kernel
theorem jk_9_192 : jm_lk 9 192 = (7, 41, 0, 0) := by decide +kernel
theorem jk_9_194 : jm_lk 9 194 = (7, 42, 0, 0) := by decide +kernel
theorem jk_9_196 : jm_lk 9 196 = (7, 43, 0, 0) := by decide +kernel
theorem jk_9_198 : jm_lk 9 198 = (7, 44, 0, 0) := by decide +kernel
theorem jk_9_329 : jm_lk 9 329 = (7, 15, 0, 0) := by decide +kernel
theorem jk_9_331 : jm_lk 9 331 = (7, 16, 0, 0) := by decide +kernel
theorem jk_9_333 : jm_lk 9 333 = (7, 17, 0, 0) := by decide +kernel
theorem jk_9_236 : jm_lk 9 236 = (1, 206, 0, 0) := by decide +kernel
theorem jk_9_239 : jm_lk 9 239 = (1, 207, 0, 0) := by decide +kernel
theorem jk_9_361 : jm_lk 9 361 = (1, 208, 1, 0) := by decide +kernel
theorem jk_9_364 : jm_lk 9 364 = (1, 209, 2, 0) := by decide +kernel
theorem jk_8_80 : jm_lk 8 80 = (1, 210, 0, 0) := by decide +kernel
theorem jk_9_242 : jm_lk 9 242 = (1, 211, 0, 0) := by decide +kernel
theorem jk_9_391 : jm_lk 9 391 = (1, 212, 1, 0) := by decide +kernel
theorem jk_9_64 : jm_lk 9 64 = (1, 213, 1, 0) := by decide +kernel
theorem jk_10_32 : jm_lk 10 32 = (1, 214, 0, 0) := by decide +kernel
theorem jk_10_36 : jm_lk 10 36 = (1, 215, 0, 0) := by decide +kernel
theorem jk_10_41 : jm_lk 10 41 = (1, 216, 2, 0) := by decide +kernel
theorem jk_9_508 : jm_lk 9 508 = (1, 217, 2, 0) := by decide +kernel
theorem jk_10_45 : jm_lk 10 45 = (1, 218, 0, 0) := by decide +kernel
theorem jk_10_49 : jm_lk 10 49 = (1, 219, 2, 0) := by decide +kernel
theorem jk_9_511 : jm_lk 9 511 = (1, 220, 1, 0) := by decide +kernel
theorem jk_9_409 : jm_lk 9 409 = (2, 221, 2, 0) := by decide +kernel
theorem jk_9_458 : jm_lk 9 458 = (2, 222, 2, 0) := by decide +kernel
theorem jk_10_53 : jm_lk 10 53 = (1, 223, 2, 0) := by decide +kernel
theorem jk_10_57 : jm_lk 10 57 = (1, 224, 1, 0) := by decide +kernel
theorem jk_10_61 : jm_lk 10 61 = (1, 225, 0, 0) := by decide +kernel
theorem jk_10_65 : jm_lk 10 65 = (1, 226, 0, 0) := by decide +kernel
theorem jk_9_451 : jm_lk 9 451 = (1, 227, 2, 0) := by decide +kernel
theorem jk_9_401 : jm_lk 9 401 = (1, 228, 2, 0) := by decide +kernel
theorem jk_10_69 : jm_lk 10 69 = (1, 229, 1, 0) := by decide +kernel
theorem jk_9_514 : jm_lk 9 514 = (1, 230, 1, 0) := by decide +kernel
theorem jk_10_73 : jm_lk 10 73 = (1, 231, 0, 0) := by decide +kernel
theorem jk_9_477 : jm_lk 9 477 = (2, 232, 1, 0) := by decide +kernel
theorem jk_10_77 : jm_lk 10 77 = (1, 233, 1, 0) := by decide +kernel
theorem jk_9_517 : jm_lk 9 517 = (1, 234, 1, 0) := by decide +kernel
theorem jk_9_520 : jm_lk 9 520 = (1, 235, 1, 0) := by decide +kernel
theorem jk_9_498 : jm_lk 9 498 = (1, 236, 0, 0) := by decide +kernel
theorem jk_9_501 : jm_lk 9 501 = (1, 237, 0, 0) := by decide +kernel
theorem jk_9_504 : jm_lk 9 504 = (1, 238, 2, 0) := by decide +kernel
theorem jk_9_483 : jm_lk 9 483 = (1, 239, 2, 0) := by decide +kernel
theorem jk_9_449 : jm_lk 9 449 = (1, 240, 1, 0) := by decide +kernel
theorem jk_9_416 : jm_lk 9 416 = (1, 241, 5, 0) := by decide +kernel
theorem jk_9_430 : jm_lk 9 430 = (1, 242, 2, 0) := by decide +kernel
theorem jk_9_405 : jm_lk 9 405 = (2, 243, 3, 0) := by decide +kernel
theorem jk_9_412 : jm_lk 9 412 = (2, 244, 2, 0) := by decide +kernel
theorem jk_9_420 : jm_lk 9 420 = (1, 245, 1, 0) := by decide +kernel
theorem jk_9_439 : jm_lk 9 439 = (2, 246, 1, 0) := by decide +kernel
theorem jk_9_433 : jm_lk 9 433 = (9, 0, 0, 75) := by decide +kernel
theorem jk_9_435 : jm_lk 9 435 = (9, 0, 0, 74) := by decide +kernel
theorem jk_9_437 : jm_lk 9 437 = (9, 0, 0, 65537) := by decide +kernel
theorem jk_9_424 : jm_lk 9 424 = (1, 247, 1, 0) := by decide +kernel
theorem jk_9_442 : jm_lk 9 442 = (1, 248, 2, 0) := by decide +kernel
theorem jk_9_427 : jm_lk 9 427 = (1, 249, 1, 0) := by decide +kernel
theorem jk_9_486 : jm_lk 9 486 = (1, 250, 2, 0) := by decide +kernel
theorem jk_9_489 : jm_lk 9 489 = (1, 251, 1, 0) := by decide +kernel
theorem jk_9_492 : jm_lk 9 492 = (1, 252, 1, 0) := by decide +kernel
theorem jk_9_464 : jm_lk 9 464 = (2, 253, 2, 0) := by decide +kernel
theorem jk_9_454 : jm_lk 9 454 = (2, 254, 3, 0) := by decide +kernel
theorem jk_9_495 : jm_lk 9 495 = (1, 255, 2, 0) := by decide +kernel
theorem jk_9_468 : jm_lk 9 468 = (1, 256, 2, 0) := by decide +kernel
theorem jk_8_84 : jm_lk 8 84 = (1, 209, 2, 0) := by decide +kernel
theorem jk_10_81 : jm_lk 10 81 = (1, 257, 2, 0) := by decide +kernel
theorem jk_9_523 : jm_lk 9 523 = (2, 258, 2, 0) := by decide +kernel
theorem jk_10_85 : jm_lk 10 85 = (1, 259, 2, 0) := by decide +kernel
theorem jk_10_89 : jm_lk 10 89 = (1, 260, 1, 0) := by decide +kernel
theorem jk_10_93 : jm_lk 10 93 = (1, 261, 1, 0) := by decide +kernel
theorem jk_10_97 : jm_lk 10 97 = (1, 262, 1, 0) := by decide +kernel
theorem jk_9_529 : jm_lk 9 529 = (1, 263, 1, 0) := by decide +kernel
theorem jk_10_101 : jm_lk 10 101 = (1, 264, 1, 0) := by decide +kernel
theorem jk_10_105 : jm_lk 10 105 = (1, 265, 1, 0) := by decide +kernel
theorem jk_10_109 : jm_lk 10 109 = (1, 266, 1, 0) := by decide +kernel
theorem jk_10_113 : jm_lk 10 113 = (1, 267, 2, 0) := by decide +kernel
theorem jk_9_532 : jm_lk 9 532 = (1, 268, 1, 0) := by decide +kernel
theorem jk_9_535 : jm_lk 9 535 = (1, 269, 1, 0) := by decide +kernel
theorem jk_10_117 : jm_lk 10 117 = (1, 270, 2, 0) := by decide +kernel
theorem jk_10_121 : jm_lk 10 121 = (1, 271, 0, 0) := by decide +kernel
theorem jk_10_125 : jm_lk 10 125 = (1, 272, 0, 0) := by decide +kernel
theorem jk_9_548 : jm_lk 9 548 = (1, 273, 0, 0) := by decide +kernel
theorem jk_9_541 : jm_lk 9 541 = (1, 274, 1, 0) := by decide +kernel
theorem jk_9_544 : jm_lk 9 544 = (1, 275, 2, 0) := by decide +kernel
theorem jk_10_129 : jm_lk 10 129 = (1, 276, 1, 0) := by decide +kernel
theorem jk_10_133 : jm_lk 10 133 = (1, 277, 1, 0) := by decide +kernel
theorem jk_10_137 : jm_lk 10 137 = (1, 278, 1, 0) := by decide +kernel
theorem jk_9_557 : jm_lk 9 557 = (1, 279, 1, 0) := by decide +kernel
theorem jk_9_560 : jm_lk 9 560 = (1, 280, 1, 0) := by decide +kernel
theorem jk_10_141 : jm_lk 10 141 = (1, 281, 2, 0) := by decide +kernel
theorem jk_10_146 : jm_lk 10 146 = (1, 282, 3, 0) := by decide +kernel
theorem jk_9_563 : jm_lk 9 563 = (8, 0, 0, 65536) := by decide +kernel
theorem jk_9_564 : jm_lk 9 564 = (8, 0, 0, 65537) := by decide +kernel
theorem jk_10_150 : jm_lk 10 150 = (1, 283, 2, 0) := by decide +kernel
theorem jk_9_567 : jm_lk 9 567 = (1, 284, 2, 0) := by decide +kernel
theorem jk_9_565 : jm_lk 9 565 = (1, 285, 2, 0) := by decide +kernel
theorem jk_10_154 : jm_lk 10 154 = (1, 286, 0, 0) := by decide +kernel
theorem jk_10_158 : jm_lk 10 158 = (1, 287, 0, 0) := by decide +kernel
theorem jk_9_570 : jm_lk 9 570 = (1, 288, 0, 0) := by decide +kernel
theorem jk_9_573 : jm_lk 9 573 = (1, 289, 1, 0) := by decide +kernel
theorem jk_10_162 : jm_lk 10 162 = (1, 290, 0, 0) := by decide +kernel
theorem jk_9_576 : jm_lk 9 576 = (1, 210, 0, 0) := by decide +kernel
theorem jk_10_166 : jm_lk 10 166 = (1, 291, 0, 0) := by decide +kernel
theorem jk_10_170 : jm_lk 10 170 = (1, 292, 0, 0) := by decide +kernel
theorem jk_9_579 : jm_lk 9 579 = (1, 293, 1, 0) := by decide +kernel
theorem jk_10_174 : jm_lk 10 174 = (1, 294, 1, 0) := by decide +kernel
theorem jk_9_582 : jm_lk 9 582 = (1, 295, 0, 0) := by decide +kernel
theorem jk_10_179 : jm_lk 10 179 = (1, 296, 1, 0) := by decide +kernel
theorem jk_9_585 : jm_lk 9 585 = (1, 297, 1, 0) := by decide +kernel
theorem jk_9_588 : jm_lk 9 588 = (1, 298, 0, 0) := by decide +kernel
theorem jk_10_184 : jm_lk 10 184 = (1, 299, 2, 0) := by decide +kernel
theorem jk_9_591 : jm_lk 9 591 = (1, 300, 3, 0) := by decide +kernel
theorem jk_10_188 : jm_lk 10 188 = (1, 301, 1, 0) := by decide +kernel
theorem jk_10_192 : jm_lk 10 192 = (1, 302, 2, 0) := by decide +kernel
theorem jk_10_196 : jm_lk 10 196 = (1, 303, 1, 0) := by decide +kernel
theorem jk_10_201 : jm_lk 10 201 = (1, 304, 0, 0) := by decide +kernel
theorem jk_10_205 : jm_lk 10 205 = (1, 305, 0, 0) := by decide +kernel
theorem jk_10_209 : jm_lk 10 209 = (1, 306, 1, 0) := by decide +kernel
theorem jk_10_213 : jm_lk 10 213 = (1, 307, 2, 0) := by decide +kernel
theorem jk_10_217 : jm_lk 10 217 = (1, 308, 1, 0) := by decide +kernel
theorem jk_10_223 : jm_lk 10 223 = (1, 309, 1, 0) := by decide +kernel
theorem jk_10_230 : jm_lk 10 230 = (1, 310, 1, 0) := by decide +kernel
theorem jk_10_234 : jm_lk 10 234 = (1, 311, 0, 0) := by decide +kernel
theorem jb_0 : jm_b 0 = cX7_init := rfl
theorem jo_0 : jm_o 0 = 7 := rfl
theorem jr_0 : jm_r 0 = none := rfl
theorem jm_0 : jm_m 0 = 1 := rfl
theorem jb_1 : jm_b 1 = cX5_init := rfl
theorem jo_1 : jm_o 1 = 5 := rfl
theorem jr_1 : jm_r 1 = none := rfl
theorem jm_1 : jm_m 1 = 3 := rfl
theorem jb_2 : jm_b 2 = cX1_init := rfl
theorem jo_2 : jm_o 2 = 1 := rfl
theorem jr_2 : jm_r 2 = none := rfl
theorem jm_2 : jm_m 2 = 1 := rfl
theorem jb_3 : jm_b 3 = cX1_clear := rfl
theorem jo_3 : jm_o 3 = 1 := rfl
theorem jr_3 : jm_r 3 = none := rfl
theorem jm_3 : jm_m 3 = 1 := rfl
theorem jb_4 : jm_b 4 = cX5_cut := rfl
theorem jo_4 : jm_o 4 = 5 := rfl
theorem jr_4 : jm_r 4 = none := rfl
theorem jm_4 : jm_m 4 = 2 := rfl
theorem jb_5 : jm_b 5 = cJ9_min_7cf53 := rfl
theorem jo_5 : jm_o 5 = 12 := rfl
theorem jr_5 : jm_r 5 = (some .int) := rfl
theorem jm_5 : jm_m 5 = 2 := rfl
theorem jb_6 : jm_b 6 = cX3_init := rfl
theorem jo_6 : jm_o 6 = 3 := rfl
theorem jr_6 : jm_r 6 = none := rfl
theorem jm_6 : jm_m 6 = 3 := rfl
theorem jb_7 : jm_b 7 = cX4_init := rfl
theorem jo_7 : jm_o 7 = 4 := rfl
theorem jr_7 : jm_r 7 = none := rfl
theorem jm_7 : jm_m 7 = 1 := rfl
theorem jb_8 : jm_b 8 = cX0_init := rfl
theorem jo_8 : jm_o 8 = 0 := rfl
theorem jr_8 : jm_r 8 = none := rfl
theorem jm_8 : jm_m 8 = 2 := rfl
theorem jb_9 : jm_b 9 = cX6_init := rfl
theorem jo_9 : jm_o 9 = 6 := rfl
theorem jr_9 : jm_r 9 = none := rfl
theorem jm_9 : jm_m 9 = 3 := rfl
theorem jb_10 : jm_b 10 = cX2_init := rfl
theorem jo_10 : jm_o 10 = 2 := rfl
theorem jr_10 : jm_r 10 = none := rfl
theorem jm_10 : jm_m 10 = 1 := rfl
theorem jb_11 : jm_b 11 = cX7_feed := rfl
theorem jo_11 : jm_o 11 = 7 := rfl
theorem jr_11 : jm_r 11 = (some .int) := rfl
theorem jm_11 : jm_m 11 = 6 := rfl
theorem jb_12 : jm_b 12 = cX5_count := rfl
theorem jo_12 : jm_o 12 = 5 := rfl
theorem jr_12 : jm_r 12 = (some .int) := rfl
theorem jm_12 : jm_m 12 = 1 := rfl
theorem jb_13 : jm_b 13 = cX7_feedOne := rfl
theorem jo_13 : jm_o 13 = 7 := rfl
theorem jr_13 : jm_r 13 = none := rfl
theorem jm_13 : jm_m 13 = 3 := rfl
theorem jb_14 : jm_b 14 = cX5_push := rfl
theorem jo_14 : jm_o 14 = 5 := rfl
theorem jr_14 : jm_r 14 = none := rfl
theorem jm_14 : jm_m 14 = 2 := rfl
theorem jb_15 : jm_b 15 = cX5_insert := rfl
theorem jo_15 : jm_o 15 = 5 := rfl
theorem jr_15 : jm_r 15 = none := rfl
theorem jm_15 : jm_m 15 = 3 := rfl
theorem jb_16 : jm_b 16 = cX5_shift := rfl
theorem jo_16 : jm_o 16 = 5 := rfl
theorem jr_16 : jm_r 16 = none := rfl
theorem jm_16 : jm_m 16 = 3 := rfl
theorem jb_17 : jm_b 17 = cX5_put := rfl
theorem jo_17 : jm_o 17 = 5 := rfl
theorem jr_17 : jm_r 17 = none := rfl
theorem jm_17 : jm_m 17 = 6 := rfl
theorem jb_18 : jm_b 18 = cX7_hall := rfl
theorem jo_18 : jm_o 18 = 7 := rfl
theorem jr_18 : jm_r 18 = (some .int) := rfl
theorem jm_18 : jm_m 18 = 3 := rfl
theorem jb_19 : jm_b 19 = cX7_refuse := rfl
theorem jo_19 : jm_o 19 = 7 := rfl
theorem jr_19 : jm_r 19 = (some .int) := rfl
theorem jm_19 : jm_m 19 = 2 := rfl
theorem jb_20 : jm_b 20 = cX3_read := rfl
theorem jo_20 : jm_o 20 = 3 := rfl
theorem jr_20 : jm_r 20 = (some .boolean) := rfl
theorem jm_20 : jm_m 20 = 4 := rfl
theorem jb_21 : jm_b 21 = cX3_begin := rfl
theorem jo_21 : jm_o 21 = 3 := rfl
theorem jr_21 : jm_r 21 = none := rfl
theorem jm_21 : jm_m 21 = 2 := rfl
theorem jb_22 : jm_b 22 = cX3_goOn := rfl
theorem jo_22 : jm_o 22 = 3 := rfl
theorem jr_22 : jm_r 22 = none := rfl
theorem jm_22 : jm_m 22 = 1 := rfl
theorem jb_23 : jm_b 23 = cX5_get := rfl
theorem jo_23 : jm_o 23 = 5 := rfl
theorem jr_23 : jm_r 23 = (some .int) := rfl
theorem jm_23 : jm_m 23 = 5 := rfl
theorem jb_24 : jm_b 24 = cX3_sortOf := rfl
theorem jo_24 : jm_o 24 = 3 := rfl
theorem jr_24 : jm_r 24 = (some .int) := rfl
theorem jm_24 : jm_m 24 = 2 := rfl
theorem jb_25 : jm_b 25 = cX3_lineComing := rfl
theorem jo_25 : jm_o 25 = 3 := rfl
theorem jr_25 : jm_r 25 = (some .int) := rfl
theorem jm_25 : jm_m 25 = 3 := rfl
theorem jb_26 : jm_b 26 = cX3_oneOf := rfl
theorem jo_26 : jm_o 26 = 3 := rfl
theorem jr_26 : jm_r 26 = (some .int) := rfl
theorem jm_26 : jm_m 26 = 7 := rfl
theorem jb_27 : jm_b 27 = cX3_lineFault := rfl
theorem jo_27 : jm_o 27 = 3 := rfl
theorem jr_27 : jm_r 27 = (some .int) := rfl
theorem jm_27 : jm_m 27 = 3 := rfl
theorem jb_28 : jm_b 28 = cX1_hasRows := rfl
theorem jo_28 : jm_o 28 = 1 := rfl
theorem jr_28 : jm_r 28 = (some .boolean) := rfl
theorem jm_28 : jm_m 28 = 1 := rfl
theorem jb_29 : jm_b 29 = cX3_lackIf := rfl
theorem jo_29 : jm_o 29 = 3 := rfl
theorem jr_29 : jm_r 29 = (some .int) := rfl
theorem jm_29 : jm_m 29 = 2 := rfl
theorem jb_30 : jm_b 30 = cX3_fail := rfl
theorem jo_30 : jm_o 30 = 3 := rfl
theorem jr_30 : jm_r 30 = (some .boolean) := rfl
theorem jm_30 : jm_m 30 = 3 := rfl
theorem jb_31 : jm_b 31 = cX3_readHall := rfl
theorem jo_31 : jm_o 31 = 3 := rfl
theorem jr_31 : jm_r 31 = (some .boolean) := rfl
theorem jm_31 : jm_m 31 = 3 := rfl
theorem jb_32 : jm_b 32 = cX3_expectOne := rfl
theorem jo_32 : jm_o 32 = 3 := rfl
theorem jr_32 : jm_r 32 = (some .boolean) := rfl
theorem jm_32 : jm_m 32 = 3 := rfl
theorem jb_33 : jm_b 33 = cX3_expectWhole := rfl
theorem jo_33 : jm_o 33 = 3 := rfl
theorem jr_33 : jm_r 33 = (some .boolean) := rfl
theorem jm_33 : jm_m 33 = 3 := rfl
theorem jb_34 : jm_b 34 = cX3_readRow := rfl
theorem jo_34 : jm_o 34 = 3 := rfl
theorem jr_34 : jm_r 34 = (some .boolean) := rfl
theorem jm_34 : jm_m 34 = 3 := rfl
theorem jb_35 : jm_b 35 = cX3_readBand := rfl
theorem jo_35 : jm_o 35 = 3 := rfl
theorem jr_35 : jm_r 35 = (some .boolean) := rfl
theorem jm_35 : jm_m 35 = 2 := rfl
theorem jb_36 : jm_b 36 = cX3_expectCell := rfl
theorem jo_36 : jm_o 36 = 3 := rfl
theorem jr_36 : jm_r 36 = (some .boolean) := rfl
theorem jm_36 : jm_m 36 = 2 := rfl
theorem jb_37 : jm_b 37 = cX3_expect := rfl
theorem jo_37 : jm_o 37 = 3 := rfl
theorem jr_37 : jm_r 37 = (some .boolean) := rfl
theorem jm_37 : jm_m 37 = 2 := rfl
theorem jb_38 : jm_b 38 = cX1_cellAt := rfl
theorem jo_38 : jm_o 38 = 1 := rfl
theorem jr_38 : jm_r 38 = (some .int) := rfl
theorem jm_38 : jm_m 38 = 3 := rfl
theorem jb_39 : jm_b 39 = cX3_readHome := rfl
theorem jo_39 : jm_o 39 = 3 := rfl
theorem jr_39 : jm_r 39 = (some .boolean) := rfl
theorem jm_39 : jm_m 39 = 1 := rfl
theorem jb_40 : jm_b 40 = cX3_readSteps := rfl
theorem jo_40 : jm_o 40 = 3 := rfl
theorem jr_40 : jm_r 40 = (some .boolean) := rfl
theorem jm_40 : jm_m 40 = 2 := rfl
theorem jb_41 : jm_b 41 = cX3_readListed := rfl
theorem jo_41 : jm_o 41 = 3 := rfl
theorem jr_41 : jm_r 41 = (some .boolean) := rfl
theorem jm_41 : jm_m 41 = 3 := rfl
theorem jb_42 : jm_b 42 = cX3_readLeads := rfl
theorem jo_42 : jm_o 42 = 3 := rfl
theorem jr_42 : jm_r 42 = (some .boolean) := rfl
theorem jm_42 : jm_m 42 = 2 := rfl
theorem jb_43 : jm_b 43 = cX3_readTable := rfl
theorem jo_43 : jm_o 43 = 3 := rfl
theorem jr_43 : jm_r 43 = (some .boolean) := rfl
theorem jm_43 : jm_m 43 = 3 := rfl
theorem jb_44 : jm_b 44 = cX3_readName := rfl
theorem jo_44 : jm_o 44 = 3 := rfl
theorem jr_44 : jm_r 44 = (some .boolean) := rfl
theorem jm_44 : jm_m 44 = 2 := rfl
theorem jb_45 : jm_b 45 = cX3_sameName := rfl
theorem jo_45 : jm_o 45 = 3 := rfl
theorem jr_45 : jm_r 45 = (some .boolean) := rfl
theorem jm_45 : jm_m 45 = 4 := rfl
theorem jb_46 : jm_b 46 = cX3_readPerson := rfl
theorem jo_46 : jm_o 46 = 3 := rfl
theorem jr_46 : jm_r 46 = (some .boolean) := rfl
theorem jm_46 : jm_m 46 = 4 := rfl
theorem jb_47 : jm_b 47 = cX3_readDancer := rfl
theorem jo_47 : jm_o 47 = 3 := rfl
theorem jr_47 : jm_r 47 = (some .boolean) := rfl
theorem jm_47 : jm_m 47 = 1 := rfl
theorem jb_48 : jm_b 48 = cX3_readSnake := rfl
theorem jo_48 : jm_o 48 = 3 := rfl
theorem jr_48 : jm_r 48 = (some .boolean) := rfl
theorem jm_48 : jm_m 48 = 5 := rfl
theorem jb_49 : jm_b 49 = cX1_isOpen := rfl
theorem jo_49 : jm_o 49 = 1 := rfl
theorem jr_49 : jm_r 49 = (some .boolean) := rfl
theorem jm_49 : jm_m 49 = 2 := rfl
theorem jb_50 : jm_b 50 = cX1_beside := rfl
theorem jo_50 : jm_o 50 = 1 := rfl
theorem jr_50 : jm_r 50 = (some .int) := rfl
theorem jm_50 : jm_m 50 = 5 := rfl
theorem jb_51 : jm_b 51 = cX3_readFrame := rfl
theorem jo_51 : jm_o 51 = 3 := rfl
theorem jr_51 : jm_r 51 = (some .boolean) := rfl
theorem jm_51 : jm_m 51 = 4 := rfl
theorem jb_52 : jm_b 52 = cX3_isWhole := rfl
theorem jo_52 : jm_o 52 = 3 := rfl
theorem jr_52 : jm_r 52 = (some .boolean) := rfl
theorem jm_52 : jm_m 52 = 2 := rfl
theorem jb_53 : jm_b 53 = cX1_copy := rfl
theorem jo_53 : jm_o 53 = 1 := rfl
theorem jr_53 : jm_r 53 = none := rfl
theorem jm_53 : jm_m 53 = 2 := rfl
theorem jb_54 : jm_b 54 = cX5_copy := rfl
theorem jo_54 : jm_o 54 = 5 := rfl
theorem jr_54 : jm_r 54 = none := rfl
theorem jm_54 : jm_m 54 = 3 := rfl
theorem jb_55 : jm_b 55 = cX1_layOut := rfl
theorem jo_55 : jm_o 55 = 1 := rfl
theorem jr_55 : jm_r 55 = none := rfl
theorem jm_55 : jm_m 55 = 4 := rfl
theorem jb_56 : jm_b 56 = cX5_blank := rfl
theorem jo_56 : jm_o 56 = 5 := rfl
theorem jr_56 : jm_r 56 = none := rfl
theorem jm_56 : jm_m 56 = 4 := rfl
theorem jb_57 : jm_b 57 = cX1_spread := rfl
theorem jo_57 : jm_o 57 = 1 := rfl
theorem jr_57 : jm_r 57 = none := rfl
theorem jm_57 : jm_m 57 = 5 := rfl
theorem jb_58 : jm_b 58 = cX1_reach := rfl
theorem jo_58 : jm_o 58 = 1 := rfl
theorem jr_58 : jm_r 58 = none := rfl
theorem jm_58 : jm_m 58 = 6 := rfl
theorem jb_59 : jm_b 59 = cX4_enter := rfl
theorem jo_59 : jm_o 59 = 4 := rfl
theorem jr_59 : jm_r 59 = none := rfl
theorem jm_59 : jm_m 59 = 6 := rfl
theorem jb_60 : jm_b 60 = cX4_copy := rfl
theorem jo_60 : jm_o 60 = 4 := rfl
theorem jr_60 : jm_r 60 = none := rfl
theorem jm_60 : jm_m 60 = 2 := rfl
theorem jb_61 : jm_b 61 = cX6_clear := rfl
theorem jo_61 : jm_o 61 = 6 := rfl
theorem jr_61 : jm_r 61 = none := rfl
theorem jm_61 : jm_m 61 = 1 := rfl
theorem jb_62 : jm_b 62 = cX7_answer := rfl
theorem jo_62 : jm_o 62 = 7 := rfl
theorem jr_62 : jm_r 62 = (some .int) := rfl
theorem jm_62 : jm_m 62 = 2 := rfl
theorem jb_63 : jm_b 63 = cX7_fault := rfl
theorem jo_63 : jm_o 63 = 7 := rfl
theorem jr_63 : jm_r 63 = (some .int) := rfl
theorem jm_63 : jm_m 63 = 1 := rfl
theorem jb_64 : jm_b 64 = cX7_where := rfl
theorem jo_64 : jm_o 64 = 7 := rfl
theorem jr_64 : jm_r 64 = (some .int) := rfl
theorem jm_64 : jm_m 64 = 1 := rfl
theorem jb_65 : jm_b 65 = cX7_cell := rfl
theorem jo_65 : jm_o 65 = 7 := rfl
theorem jr_65 : jm_r 65 = (some .int) := rfl
theorem jm_65 : jm_m 65 = 4 := rfl
theorem jb_66 : jm_b 66 = cX7_cellAt := rfl
theorem jo_66 : jm_o 66 = 7 := rfl
theorem jr_66 : jm_r 66 = (some .int) := rfl
theorem jm_66 : jm_m 66 = 3 := rfl
theorem jb_67 : jm_b 67 = cX7_many := rfl
theorem jo_67 : jm_o 67 = 7 := rfl
theorem jr_67 : jm_r 67 = (some .int) := rfl
theorem jm_67 : jm_m 67 = 1 := rfl
theorem jb_68 : jm_b 68 = cX7_dancer := rfl
theorem jo_68 : jm_o 68 = 7 := rfl
theorem jr_68 : jm_r 68 = (some .int) := rfl
theorem jm_68 : jm_m 68 = 3 := rfl
theorem jb_69 : jm_b 69 = cX7_isDancer := rfl
theorem jo_69 : jm_o 69 = 7 := rfl
theorem jr_69 : jm_r 69 = (some .boolean) := rfl
theorem jm_69 : jm_m 69 = 2 := rfl
theorem jb_70 : jm_b 70 = cX4_cellOf := rfl
theorem jo_70 : jm_o 70 = 4 := rfl
theorem jr_70 : jm_r 70 = (some .int) := rfl
theorem jm_70 : jm_m 70 = 2 := rfl
theorem jb_71 : jm_b 71 = cX4_gapOf := rfl
theorem jo_71 : jm_o 71 = 4 := rfl
theorem jr_71 : jm_r 71 = (some .int) := rfl
theorem jm_71 : jm_m 71 = 2 := rfl
theorem jb_72 : jm_b 72 = cX7_stands := rfl
theorem jo_72 : jm_o 72 = 7 := rfl
theorem jr_72 : jm_r 72 = (some .int) := rfl
theorem jm_72 : jm_m 72 = 5 := rfl
theorem jb_73 : jm_b 73 = cX7_way := rfl
theorem jo_73 : jm_o 73 = 7 := rfl
theorem jr_73 : jm_r 73 = (some .int) := rfl
theorem jm_73 : jm_m 73 = 3 := rfl
theorem jb_74 : jm_b 74 = cX7_length := rfl
theorem jo_74 : jm_o 74 = 7 := rfl
theorem jr_74 : jm_r 74 = (some .int) := rfl
theorem jm_74 : jm_m 74 = 1 := rfl
theorem jb_75 : jm_b 75 = cX7_corners := rfl
theorem jo_75 : jm_o 75 = 7 := rfl
theorem jr_75 : jm_r 75 = (some .int) := rfl
theorem jm_75 : jm_m 75 = 4 := rfl
theorem jb_76 : jm_b 76 = cX4_turnsAt := rfl
theorem jo_76 : jm_o 76 = 4 := rfl
theorem jr_76 : jm_r 76 = (some .boolean) := rfl
theorem jm_76 : jm_m 76 = 3 := rfl
theorem jb_77 : jm_b 77 = cX7_sits := rfl
theorem jo_77 : jm_o 77 = 7 := rfl
theorem jr_77 : jm_r 77 = (some .int) := rfl
theorem jm_77 : jm_m 77 = 2 := rfl
theorem jb_78 : jm_b 78 = cX7_isTable := rfl
theorem jo_78 : jm_o 78 = 7 := rfl
theorem jr_78 : jm_r 78 = (some .boolean) := rfl
theorem jm_78 : jm_m 78 = 2 := rfl
theorem jb_79 : jm_b 79 = cX7_over := rfl
theorem jo_79 : jm_o 79 = 7 := rfl
theorem jr_79 : jm_r 79 = (some .int) := rfl
theorem jm_79 : jm_m 79 = 1 := rfl
theorem jb_80 : jm_b 80 = cX7_manyIn := rfl
theorem jo_80 : jm_o 80 = 7 := rfl
theorem jr_80 : jm_r 80 = (some .int) := rfl
theorem jm_80 : jm_m 80 = 2 := rfl
theorem jb_81 : jm_b 81 = cX7_foresee := rfl
theorem jo_81 : jm_o 81 = 7 := rfl
theorem jr_81 : jm_r 81 = (some .boolean) := rfl
theorem jm_81 : jm_m 81 = 2 := rfl
theorem jb_82 : jm_b 82 = cX0_begin := rfl
theorem jo_82 : jm_o 82 = 0 := rfl
theorem jr_82 : jm_r 82 = none := rfl
theorem jm_82 : jm_m 82 = 2 := rfl
theorem jb_83 : jm_b 83 = cX0_run := rfl
theorem jo_83 : jm_o 83 = 0 := rfl
theorem jr_83 : jm_r 83 = none := rfl
theorem jm_83 : jm_m 83 = 4 := rfl
theorem jb_84 : jm_b 84 = cX0_stepsDue := rfl
theorem jo_84 : jm_o 84 = 0 := rfl
theorem jr_84 : jm_r 84 = (some .int) := rfl
theorem jm_84 : jm_m 84 = 1 := rfl
theorem jb_85 : jm_b 85 = cX1_pace := rfl
theorem jo_85 : jm_o 85 = 1 := rfl
theorem jr_85 : jm_r 85 = (some .int) := rfl
theorem jm_85 : jm_m 85 = 3 := rfl
theorem jb_86 : jm_b 86 = cX0_goAhead := rfl
theorem jo_86 : jm_o 86 = 0 := rfl
theorem jr_86 : jm_r 86 = (some .boolean) := rfl
theorem jm_86 : jm_m 86 = 5 := rfl
theorem jb_87 : jm_b 87 = cX4_shutCells := rfl
theorem jo_87 : jm_o 87 = 4 := rfl
theorem jr_87 : jm_r 87 = none := rfl
theorem jm_87 : jm_m 87 = 4 := rfl
theorem jb_88 : jm_b 88 = cX0_lookAround := rfl
theorem jo_88 : jm_o 88 = 0 := rfl
theorem jr_88 : jm_r 88 = none := rfl
theorem jm_88 : jm_m 88 = 7 := rfl
theorem jb_89 : jm_b 89 = cX0_sidePicked := rfl
theorem jo_89 : jm_o 89 = 0 := rfl
theorem jr_89 : jm_r 89 = (some .int) := rfl
theorem jm_89 : jm_m 89 = 1 := rfl
theorem jb_90 : jm_b 90 = cX0_sideByLot := rfl
theorem jo_90 : jm_o 90 = 0 := rfl
theorem jr_90 : jm_r 90 = (some .int) := rfl
theorem jm_90 : jm_m 90 = 4 := rfl
theorem jb_91 : jm_b 91 = cX4_draw := rfl
theorem jo_91 : jm_o 91 = 4 := rfl
theorem jr_91 : jm_r 91 = (some .int) := rfl
theorem jm_91 : jm_m 91 = 1 := rfl
theorem jb_92 : jm_b 92 = cX0_sideHome := rfl
theorem jo_92 : jm_o 92 = 0 := rfl
theorem jr_92 : jm_r 92 = (some .int) := rfl
theorem jm_92 : jm_m 92 = 6 := rfl
theorem jb_93 : jm_b 93 = cX0_sideTold := rfl
theorem jo_93 : jm_o 93 = 0 := rfl
theorem jr_93 : jm_r 93 = (some .int) := rfl
theorem jm_93 : jm_m 93 = 1 := rfl
theorem jb_94 : jm_b 94 = cX0_sideByHand := rfl
theorem jo_94 : jm_o 94 = 0 := rfl
theorem jr_94 : jm_r 94 = (some .int) := rfl
theorem jm_94 : jm_m 94 = 5 := rfl
theorem jb_95 : jm_b 95 = cX0_tally := rfl
theorem jo_95 : jm_o 95 = 0 := rfl
theorem jr_95 : jm_r 95 = none := rfl
theorem jm_95 : jm_m 95 = 4 := rfl
theorem jb_96 : jm_b 96 = cX0_comeAfter := rfl
theorem jo_96 : jm_o 96 = 0 := rfl
theorem jr_96 : jm_r 96 = none := rfl
theorem jm_96 : jm_m 96 = 8 := rfl
theorem jb_97 : jm_b 97 = cX4_costFrom := rfl
theorem jo_97 : jm_o 97 = 4 := rfl
theorem jr_97 : jm_r 97 = (some .int) := rfl
theorem jm_97 : jm_m 97 = 3 := rfl
theorem jb_98 : jm_b 98 = cX0_tear := rfl
theorem jo_98 : jm_o 98 = 0 := rfl
theorem jr_98 : jm_r 98 = none := rfl
theorem jm_98 : jm_m 98 = 3 := rfl
theorem jb_99 : jm_b 99 = cX0_leaveOnStairs := rfl
theorem jo_99 : jm_o 99 = 0 := rfl
theorem jr_99 : jm_r 99 = none := rfl
theorem jm_99 : jm_m 99 = 3 := rfl
theorem jb_100 : jm_b 100 = cX5_drop := rfl
theorem jo_100 : jm_o 100 = 5 := rfl
theorem jr_100 : jm_r 100 = none := rfl
theorem jm_100 : jm_m 100 = 3 := rfl
theorem jb_101 : jm_b 101 = cX0_askAround := rfl
theorem jo_101 : jm_o 101 = 0 := rfl
theorem jr_101 : jm_r 101 = none := rfl
theorem jm_101 : jm_m 101 = 4 := rfl
theorem jb_102 : jm_b 102 = cX0_askerAt := rfl
theorem jo_102 : jm_o 102 = 0 := rfl
theorem jr_102 : jm_r 102 = (some .int) := rfl
theorem jm_102 : jm_m 102 = 5 := rfl
theorem jb_103 : jm_b 103 = cX4_join := rfl
theorem jo_103 : jm_o 103 = 4 := rfl
theorem jr_103 : jm_r 103 = none := rfl
theorem jm_103 : jm_m 103 = 8 := rfl
theorem jb_104 : jm_b 104 = cX7_at := rfl
theorem jo_104 : jm_o 104 = 7 := rfl
theorem jr_104 : jm_r 104 = (some .int) := rfl
theorem jm_104 : jm_m 104 = 4 := rfl
theorem jb_105 : jm_b 105 = cX4_find := rfl
theorem jo_105 : jm_o 105 = 4 := rfl
theorem jr_105 : jm_r 105 = (some .int) := rfl
theorem jm_105 : jm_m 105 = 3 := rfl
theorem jb_106 : jm_b 106 = cX7_ran := rfl
theorem jo_106 : jm_o 106 = 7 := rfl
theorem jr_106 : jm_r 106 = (some .int) := rfl
theorem jm_106 : jm_m 106 = 4 := rfl
theorem jb_107 : jm_b 107 = cX7_runner := rfl
theorem jo_107 : jm_o 107 = 7 := rfl
theorem jr_107 : jm_r 107 = (some .int) := rfl
theorem jm_107 : jm_m 107 = 4 := rfl
theorem jb_108 : jm_b 108 = cX0_wentOf := rfl
theorem jo_108 : jm_o 108 = 0 := rfl
theorem jr_108 : jm_r 108 = (some .int) := rfl
theorem jm_108 : jm_m 108 = 2 := rfl
theorem jb_109 : jm_b 109 = cX7_widest := rfl
theorem jo_109 : jm_o 109 = 7 := rfl
theorem jr_109 : jm_r 109 = (some .int) := rfl
theorem jm_109 : jm_m 109 = 4 := rfl
theorem jb_110 : jm_b 110 = cJ9_max_7cf53 := rfl
theorem jo_110 : jm_o 110 = 12 := rfl
theorem jr_110 : jm_r 110 = (some .int) := rfl
theorem jm_110 : jm_m 110 = 2 := rfl
theorem jb_111 : jm_b 111 = cX7_torn := rfl
theorem jo_111 : jm_o 111 = 7 := rfl
theorem jr_111 : jm_r 111 = (some .int) := rfl
theorem jm_111 : jm_m 111 = 2 := rfl
theorem jb_112 : jm_b 112 = cX7_tornBy := rfl
theorem jo_112 : jm_o 112 = 7 := rfl
theorem jr_112 : jm_r 112 = (some .int) := rfl
theorem jm_112 : jm_m 112 = 2 := rfl
theorem jb_113 : jm_b 113 = cX7_joined := rfl
theorem jo_113 : jm_o 113 = 7 := rfl
theorem jr_113 : jm_r 113 = (some .int) := rfl
theorem jm_113 : jm_m 113 = 2 := rfl
theorem jb_114 : jm_b 114 = cX7_ring := rfl
theorem jo_114 : jm_o 114 = 7 := rfl
theorem jr_114 : jm_r 114 = (some .int) := rfl
theorem jm_114 : jm_m 114 = 2 := rfl
theorem jb_115 : jm_b 115 = cX7_jolt := rfl
theorem jo_115 : jm_o 115 = 7 := rfl
theorem jr_115 : jm_r 115 = (some .int) := rfl
theorem jm_115 : jm_m 115 = 3 := rfl
theorem jb_116 : jm_b 116 = cX0_joltFor := rfl
theorem jo_116 : jm_o 116 = 0 := rfl
theorem jr_116 : jm_r 116 = none := rfl
theorem jm_116 : jm_m 116 = 5 := rfl
theorem jb_117 : jm_b 117 = cX0_measure := rfl
theorem jo_117 : jm_o 117 = 0 := rfl
theorem jr_117 : jm_r 117 = none := rfl
theorem jm_117 : jm_m 117 = 3 := rfl
theorem jb_118 : jm_b 118 = cX7_joltOf := rfl
theorem jo_118 : jm_o 118 = 7 := rfl
theorem jr_118 : jm_r 118 = (some .int) := rfl
theorem jm_118 : jm_m 118 = 3 := rfl
theorem jb_119 : jm_b 119 = cX7_grows := rfl
theorem jo_119 : jm_o 119 = 7 := rfl
theorem jr_119 : jm_r 119 = (some .int) := rfl
theorem jm_119 : jm_m 119 = 5 := rfl
theorem jb_120 : jm_b 120 = cJ6_compare_7cf53 := rfl
theorem jo_120 : jm_o 120 = 11 := rfl
theorem jr_120 : jm_r 120 = (some .int) := rfl
theorem jm_120 : jm_m 120 = 2 := rfl
theorem jb_121 : jm_b 121 = cX7_holds := rfl
theorem jo_121 : jm_o 121 = 7 := rfl
theorem jr_121 : jm_r 121 = (some .int) := rfl
theorem jm_121 : jm_m 121 = 2 := rfl
theorem jb_122 : jm_b 122 = cX7_order := rfl
theorem jo_122 : jm_o 122 = 7 := rfl
theorem jr_122 : jm_r 122 = (some .int) := rfl
theorem jm_122 : jm_m 122 = 1 := rfl
theorem jb_123 : jm_b 123 = cX7_bestOrder := rfl
theorem jo_123 : jm_o 123 = 7 := rfl
theorem jr_123 : jm_r 123 = (some .int) := rfl
theorem jm_123 : jm_m 123 = 4 := rfl
theorem jb_124 : jm_b 124 = cX2_begin := rfl
theorem jo_124 : jm_o 124 = 2 := rfl
theorem jr_124 : jm_r 124 = none := rfl
theorem jm_124 : jm_m 124 = 3 := rfl
theorem jb_125 : jm_b 125 = cX4_takeWho := rfl
theorem jo_125 : jm_o 125 = 4 := rfl
theorem jr_125 : jm_r 125 = none := rfl
theorem jm_125 : jm_m 125 = 4 := rfl
theorem jb_126 : jm_b 126 = cX2_next := rfl
theorem jo_126 : jm_o 126 = 2 := rfl
theorem jr_126 : jm_r 126 = (some .boolean) := rfl
theorem jm_126 : jm_m 126 = 6 := rfl
theorem jb_127 : jm_b 127 = cX2_swap := rfl
theorem jo_127 : jm_o 127 = 2 := rfl
theorem jr_127 : jm_r 127 = none := rfl
theorem jm_127 : jm_m 127 = 4 := rfl
theorem jb_128 : jm_b 128 = cX7_orderAt := rfl
theorem jo_128 : jm_o 128 = 7 := rfl
theorem jr_128 : jm_r 128 = (some .int) := rfl
theorem jm_128 : jm_m 128 = 2 := rfl
theorem jb_129 : jm_b 129 = cX7_leader := rfl
theorem jo_129 : jm_o 129 = 7 := rfl
theorem jr_129 : jm_r 129 = (some .int) := rfl
theorem jm_129 : jm_m 129 = 5 := rfl
theorem jb_130 : jm_b 130 = cX7_plan := rfl
theorem jo_130 : jm_o 130 = 7 := rfl
theorem jr_130 : jm_r 130 = (some .int) := rfl
theorem jm_130 : jm_m 130 = 3 := rfl
theorem jb_131 : jm_b 131 = cX7_bestPlan := rfl
theorem jo_131 : jm_o 131 = 7 := rfl
theorem jr_131 : jm_r 131 = (some .int) := rfl
theorem jm_131 : jm_m 131 = 5 := rfl
theorem jb_132 : jm_b 132 = cX0_beginPlan := rfl
theorem jo_132 : jm_o 132 = 0 := rfl
theorem jr_132 : jm_r 132 = none := rfl
theorem jm_132 : jm_m 132 = 5 := rfl
theorem jb_133 : jm_b 133 = cX0_sideOf := rfl
theorem jo_133 : jm_o 133 = 0 := rfl
theorem jr_133 : jm_r 133 = (some .int) := rfl
theorem jm_133 : jm_m 133 = 4 := rfl
theorem jb_134 : jm_b 134 = cX7_planAt := rfl
theorem jo_134 : jm_o 134 = 7 := rfl
theorem jr_134 : jm_r 134 = (some .int) := rfl
theorem jm_134 : jm_m 134 = 4 := rfl
theorem jb_135 : jm_b 135 = cX7_mean := rfl
theorem jo_135 : jm_o 135 = 7 := rfl
theorem jr_135 : jm_r 135 = (some .int) := rfl
theorem jm_135 : jm_m 135 = 6 := rfl
theorem jb_136 : jm_b 136 = cX7_late := rfl
theorem jo_136 : jm_o 136 = 7 := rfl
theorem jr_136 : jm_r 136 = (some .int) := rfl
theorem jm_136 : jm_m 136 = 5 := rfl
theorem jb_137 : jm_b 137 = cX1_delay := rfl
theorem jo_137 : jm_o 137 = 1 := rfl
theorem jr_137 : jm_r 137 = (some .int) := rfl
theorem jm_137 : jm_m 137 = 5 := rfl
theorem jb_138 : jm_b 138 = cJ9_abs_0f7a4 := rfl
theorem jo_138 : jm_o 138 = 12 := rfl
theorem jr_138 : jm_r 138 = (some .int) := rfl
theorem jm_138 : jm_m 138 = 1 := rfl
theorem jb_139 : jm_b 139 = cX7_kicks := rfl
theorem jo_139 : jm_o 139 = 7 := rfl
theorem jr_139 : jm_r 139 = (some .int) := rfl
theorem jm_139 : jm_m 139 = 1 := rfl
theorem jb_140 : jm_b 140 = cX7_inTime := rfl
theorem jo_140 : jm_o 140 = 7 := rfl
theorem jr_140 : jm_r 140 = (some .int) := rfl
theorem jm_140 : jm_m 140 = 1 := rfl
theorem jb_141 : jm_b 141 = cX7_inTimeFrom := rfl
theorem jo_141 : jm_o 141 = 7 := rfl
theorem jr_141 : jm_r 141 = (some .int) := rfl
theorem jm_141 : jm_m 141 = 5 := rfl
theorem jb_142 : jm_b 142 = cX7_bestBand := rfl
theorem jo_142 : jm_o 142 = 7 := rfl
theorem jr_142 : jm_r 142 = (some .int) := rfl
theorem jm_142 : jm_m 142 = 5 := rfl
theorem jb_143 : jm_b 143 = cX7_out := rfl
theorem jo_143 : jm_o 143 = 7 := rfl
theorem jr_143 : jm_r 143 = (some .int) := rfl
theorem jm_143 : jm_m 143 = 2 := rfl
theorem jb_144 : jm_b 144 = cX7_fits := rfl
theorem jo_144 : jm_o 144 = 7 := rfl
theorem jr_144 : jm_r 144 = (some .int) := rfl
theorem jm_144 : jm_m 144 = 3 := rfl
theorem jb_145 : jm_b 145 = cX0_shows := rfl
theorem jo_145 : jm_o 145 = 0 := rfl
theorem jr_145 : jm_r 145 = (some .boolean) := rfl
theorem jm_145 : jm_m 145 = 4 := rfl
theorem jb_146 : jm_b 146 = cX0_shown := rfl
theorem jo_146 : jm_o 146 = 0 := rfl
theorem jr_146 : jm_r 146 = (some .boolean) := rfl
theorem jm_146 : jm_m 146 = 3 := rfl
theorem jb_147 : jm_b 147 = cX7_dance := rfl
theorem jo_147 : jm_o 147 = 7 := rfl
theorem jr_147 : jm_r 147 = (some .int) := rfl
theorem jm_147 : jm_m 147 = 2 := rfl
theorem jb_148 : jm_b 148 = cX6_push := rfl
theorem jo_148 : jm_o 148 = 6 := rfl
theorem jr_148 : jm_r 148 = none := rfl
theorem jm_148 : jm_m 148 = 3 := rfl
theorem jb_149 : jm_b 149 = cX6_isFull := rfl
theorem jo_149 : jm_o 149 = 6 := rfl
theorem jr_149 : jm_r 149 = (some .boolean) := rfl
theorem jm_149 : jm_m 149 = 1 := rfl
theorem jb_150 : jm_b 150 = cX6_rowAt := rfl
theorem jo_150 : jm_o 150 = 6 := rfl
theorem jr_150 : jm_r 150 = (some (.object "SnakeRow$Row")) := rfl
theorem jm_150 : jm_m 150 = 3 := rfl
theorem jb_151 : jm_b 151 = cJ9_floorMod_7cf53 := rfl
theorem jo_151 : jm_o 151 = 12 := rfl
theorem jr_151 : jm_r 151 = (some .int) := rfl
theorem jm_151 : jm_m 151 = 3 := rfl
theorem jb_152 : jm_b 152 = cX7_lead := rfl
theorem jo_152 : jm_o 152 = 7 := rfl
theorem jr_152 : jm_r 152 = (some .boolean) := rfl
theorem jm_152 : jm_m 152 = 2 := rfl
theorem jb_153 : jm_b 153 = cX7_deny := rfl
theorem jo_153 : jm_o 153 = 7 := rfl
theorem jr_153 : jm_r 153 = (some .boolean) := rfl
theorem jm_153 : jm_m 153 = 2 := rfl
theorem jb_154 : jm_b 154 = cX7_grant := rfl
theorem jo_154 : jm_o 154 = 7 := rfl
theorem jr_154 : jm_r 154 = (some .boolean) := rfl
theorem jm_154 : jm_m 154 = 1 := rfl
theorem jb_155 : jm_b 155 = cX7_change := rfl
theorem jo_155 : jm_o 155 = 7 := rfl
theorem jr_155 : jm_r 155 = (some .boolean) := rfl
theorem jm_155 : jm_m 155 = 3 := rfl
theorem jb_156 : jm_b 156 = cX7_letGo := rfl
theorem jo_156 : jm_o 156 = 7 := rfl
theorem jr_156 : jm_r 156 = (some .boolean) := rfl
theorem jm_156 : jm_m 156 = 2 := rfl
theorem jb_157 : jm_b 157 = cX7_band := rfl
theorem jo_157 : jm_o 157 = 7 := rfl
theorem jr_157 : jm_r 157 = (some .boolean) := rfl
theorem jm_157 : jm_m 157 = 4 := rfl
theorem jb_158 : jm_b 158 = cX7_seed := rfl
theorem jo_158 : jm_o 158 = 7 := rfl
theorem jr_158 : jm_r 158 = (some .boolean) := rfl
theorem jm_158 : jm_m 158 = 2 := rfl
theorem jb_159 : jm_b 159 = cX7_undo := rfl
theorem jo_159 : jm_o 159 = 7 := rfl
theorem jr_159 : jm_r 159 = (some .boolean) := rfl
theorem jm_159 : jm_m 159 = 1 := rfl
theorem jb_160 : jm_b 160 = cX6_pop := rfl
theorem jo_160 : jm_o 160 = 6 := rfl
theorem jr_160 : jm_r 160 = (some .boolean) := rfl
theorem jm_160 : jm_m 160 = 2 := rfl
theorem jb_161 : jm_b 161 = cX6_show := rfl
theorem jo_161 : jm_o 161 = 6 := rfl
theorem jr_161 : jm_r 161 = (some .boolean) := rfl
theorem jm_161 : jm_m 161 = 4 := rfl
theorem jb_162 : jm_b 162 = cX7_mark := rfl
theorem jo_162 : jm_o 162 = 7 := rfl
theorem jr_162 : jm_r 162 = (some .int) := rfl
theorem jm_162 : jm_m 162 = 1 := rfl
theorem jb_163 : jm_b 163 = cX6_count := rfl
theorem jo_163 : jm_o 163 = 6 := rfl
theorem jr_163 : jm_r 163 = (some .int) := rfl
theorem jm_163 : jm_m 163 = 1 := rfl
theorem jb_164 : jm_b 164 = cX7_back := rfl
theorem jo_164 : jm_o 164 = 7 := rfl
theorem jr_164 : jm_r 164 = (some .boolean) := rfl
theorem jm_164 : jm_m 164 = 2 := rfl
theorem jb_165 : jm_b 165 = cX7_table := rfl
theorem jo_165 : jm_o 165 = 7 := rfl
theorem jr_165 : jm_r 165 = (some .int) := rfl
theorem jm_165 : jm_m 165 = 4 := rfl
theorem jb_166 : jm_b 166 = cX7_steps := rfl
theorem jo_166 : jm_o 166 = 7 := rfl
theorem jr_166 : jm_r 166 = (some .int) := rfl
theorem jm_166 : jm_m 166 = 3 := rfl
theorem jb_167 : jm_b 167 = cX7_size := rfl
theorem jo_167 : jm_o 167 = 7 := rfl
theorem jr_167 : jm_r 167 = (some .int) := rfl
theorem jm_167 : jm_m 167 = 2 := rfl
theorem jb_168 : jm_b 168 = cX7_sizeTold := rfl
theorem jo_168 : jm_o 168 = 7 := rfl
theorem jr_168 : jm_r 168 = (some .int) := rfl
theorem jm_168 : jm_m 168 = 2 := rfl
theorem jb_169 : jm_b 169 = cX7_sizeNow := rfl
theorem jo_169 : jm_o 169 = 7 := rfl
theorem jr_169 : jm_r 169 = (some .int) := rfl
theorem jm_169 : jm_m 169 = 2 := rfl
theorem jb_170 : jm_b 170 = cX7_trouble := rfl
theorem jo_170 : jm_o 170 = 7 := rfl
theorem jr_170 : jm_r 170 = (some .int) := rfl
theorem jm_170 : jm_m 170 = 1 := rfl
theorem jb_171 : jm_b 171 = cX7_led := rfl
theorem jo_171 : jm_o 171 = 7 := rfl
theorem jr_171 : jm_r 171 = (some .int) := rfl
theorem jm_171 : jm_m 171 = 4 := rfl
theorem jb_172 : jm_b 172 = cX9_init := rfl
theorem jo_172 : jm_o 172 = 9 := rfl
theorem jr_172 : jm_r 172 = none := rfl
theorem jm_172 : jm_m 172 = 1 := rfl
theorem jb_173 : jm_b 173 = cX9_thrown := rfl
theorem jo_173 : jm_o 173 = 9 := rfl
theorem jr_173 : jm_r 173 = (some .int) := rfl
theorem jm_173 : jm_m 173 = 1 := rfl
theorem jb_174 : jm_b 174 = cX9_feed := rfl
theorem jo_174 : jm_o 174 = 9 := rfl
theorem jr_174 : jm_r 174 = (some .int) := rfl
theorem jm_174 : jm_m 174 = 8 := rfl
theorem jb_175 : jm_b 175 = cX9_hall := rfl
theorem jo_175 : jm_o 175 = 9 := rfl
theorem jr_175 : jm_r 175 = (some .int) := rfl
theorem jm_175 : jm_m 175 = 2 := rfl
theorem jb_176 : jm_b 176 = cX9_refused := rfl
theorem jo_176 : jm_o 176 = 9 := rfl
theorem jr_176 : jm_r 176 = (some .int) := rfl
theorem jm_176 : jm_m 176 = 2 := rfl
theorem jb_177 : jm_b 177 = cX8_init := rfl
theorem jo_177 : jm_o 177 = 8 := rfl
theorem jr_177 : jm_r 177 = none := rfl
theorem jm_177 : jm_m 177 = 1 := rfl
theorem jb_178 : jm_b 178 = cX9_goesOn := rfl
theorem jo_178 : jm_o 178 = 9 := rfl
theorem jr_178 : jm_r 178 = none := rfl
theorem jm_178 : jm_m 178 = 3 := rfl
theorem jb_179 : jm_b 179 = cX9_byteAt := rfl
theorem jo_179 : jm_o 179 = 9 := rfl
theorem jr_179 : jm_r 179 = (some .int) := rfl
theorem jm_179 : jm_m 179 = 2 := rfl
theorem jb_180 : jm_b 180 = cX9_isLetter := rfl
theorem jo_180 : jm_o 180 = 9 := rfl
theorem jr_180 : jm_r 180 = (some .boolean) := rfl
theorem jm_180 : jm_m 180 = 1 := rfl
theorem jb_181 : jm_b 181 = cX9_isDigit := rfl
theorem jo_181 : jm_o 181 = 9 := rfl
theorem jr_181 : jm_r 181 = (some .boolean) := rfl
theorem jm_181 : jm_m 181 = 1 := rfl
theorem jb_182 : jm_b 182 = cX9_readAll := rfl
theorem jo_182 : jm_o 182 = 9 := rfl
theorem jr_182 : jm_r 182 = none := rfl
theorem jm_182 : jm_m 182 = 2 := rfl
theorem jb_183 : jm_b 183 = cX9_readLine := rfl
theorem jo_183 : jm_o 183 = 9 := rfl
theorem jr_183 : jm_r 183 = none := rfl
theorem jm_183 : jm_m 183 = 1 := rfl
theorem jb_184 : jm_b 184 = cX9_isWord := rfl
theorem jo_184 : jm_o 184 = 9 := rfl
theorem jr_184 : jm_r 184 = (some .boolean) := rfl
theorem jm_184 : jm_m 184 = 2 := rfl
theorem jb_185 : jm_b 185 = cX9_wordOf := rfl
theorem jo_185 : jm_o 185 = 9 := rfl
theorem jr_185 : jm_r 185 = (some .long) := rfl
theorem jm_185 : jm_m 185 = 4 := rfl
theorem jb_186 : jm_b 186 = cX9_readHall := rfl
theorem jo_186 : jm_o 186 = 9 := rfl
theorem jr_186 : jm_r 186 = none := rfl
theorem jm_186 : jm_m 186 = 5 := rfl
theorem jb_187 : jm_b 187 = cX9_flaw := rfl
theorem jo_187 : jm_o 187 = 9 := rfl
theorem jr_187 : jm_r 187 = none := rfl
theorem jm_187 : jm_m 187 = 2 := rfl
theorem jb_188 : jm_b 188 = cX9_readPart := rfl
theorem jo_188 : jm_o 188 = 9 := rfl
theorem jr_188 : jm_r 188 = (some .int) := rfl
theorem jm_188 : jm_m 188 = 4 := rfl
theorem jb_189 : jm_b 189 = cX9_needs := rfl
theorem jo_189 : jm_o 189 = 9 := rfl
theorem jr_189 : jm_r 189 = none := rfl
theorem jm_189 : jm_m 189 = 2 := rfl
theorem jb_190 : jm_b 190 = cX9_readWhole := rfl
theorem jo_190 : jm_o 190 = 9 := rfl
theorem jr_190 : jm_r 190 = (some .int) := rfl
theorem jm_190 : jm_m 190 = 4 := rfl
theorem jb_191 : jm_b 191 = cX9_bounded := rfl
theorem jo_191 : jm_o 191 = 9 := rfl
theorem jr_191 : jm_r 191 = (some .int) := rfl
theorem jm_191 : jm_m 191 = 3 := rfl
theorem jb_192 : jm_b 192 = cX9_in := rfl
theorem jo_192 : jm_o 192 = 9 := rfl
theorem jr_192 : jm_r 192 = (some .boolean) := rfl
theorem jm_192 : jm_m 192 = 3 := rfl
theorem jb_193 : jm_b 193 = cX9_readRow := rfl
theorem jo_193 : jm_o 193 = 9 := rfl
theorem jr_193 : jm_r 193 = none := rfl
theorem jm_193 : jm_m 193 = 3 := rfl
theorem jb_194 : jm_b 194 = cX9_begins := rfl
theorem jo_194 : jm_o 194 = 9 := rfl
theorem jr_194 : jm_r 194 = none := rfl
theorem jm_194 : jm_m 194 = 4 := rfl
theorem jb_195 : jm_b 195 = cX9_readBand := rfl
theorem jo_195 : jm_o 195 = 9 := rfl
theorem jr_195 : jm_r 195 = none := rfl
theorem jm_195 : jm_m 195 = 3 := rfl
theorem jb_196 : jm_b 196 = cX9_knownCell := rfl
theorem jo_196 : jm_o 196 = 9 := rfl
theorem jr_196 : jm_r 196 = (some .int) := rfl
theorem jm_196 : jm_m 196 = 2 := rfl
theorem jb_197 : jm_b 197 = cX9_needsSign := rfl
theorem jo_197 : jm_o 197 = 9 := rfl
theorem jr_197 : jm_r 197 = none := rfl
theorem jm_197 : jm_m 197 = 2 := rfl
theorem jb_198 : jm_b 198 = cX9_readHome := rfl
theorem jo_198 : jm_o 198 = 9 := rfl
theorem jr_198 : jm_r 198 = none := rfl
theorem jm_198 : jm_m 198 = 2 := rfl
theorem jb_199 : jm_b 199 = cX9_readSteps := rfl
theorem jo_199 : jm_o 199 = 9 := rfl
theorem jr_199 : jm_r 199 = none := rfl
theorem jm_199 : jm_m 199 = 3 := rfl
theorem jb_200 : jm_b 200 = cX9_eatsSign := rfl
theorem jo_200 : jm_o 200 = 9 := rfl
theorem jr_200 : jm_r 200 = (some .boolean) := rfl
theorem jm_200 : jm_m 200 = 3 := rfl
theorem jb_201 : jm_b 201 = cX9_readLeads := rfl
theorem jo_201 : jm_o 201 = 9 := rfl
theorem jr_201 : jm_r 201 = none := rfl
theorem jm_201 : jm_m 201 = 4 := rfl
theorem jb_202 : jm_b 202 = cX9_readSide := rfl
theorem jo_202 : jm_o 202 = 9 := rfl
theorem jr_202 : jm_r 202 = (some .int) := rfl
theorem jm_202 : jm_m 202 = 2 := rfl
theorem jb_203 : jm_b 203 = cX9_readTable := rfl
theorem jo_203 : jm_o 203 = 9 := rfl
theorem jr_203 : jm_r 203 = none := rfl
theorem jm_203 : jm_m 203 = 10 := rfl
theorem jb_204 : jm_b 204 = cX9_isName := rfl
theorem jo_204 : jm_o 204 = 9 := rfl
theorem jr_204 : jm_r 204 = (some .boolean) := rfl
theorem jm_204 : jm_m 204 = 1 := rfl
theorem jb_205 : jm_b 205 = cX9_readKind := rfl
theorem jo_205 : jm_o 205 = 9 := rfl
theorem jr_205 : jm_r 205 = (some .int) := rfl
theorem jm_205 : jm_m 205 = 2 := rfl
theorem jb_206 : jm_b 206 = cX9_readDancer := rfl
theorem jo_206 : jm_o 206 = 9 := rfl
theorem jr_206 : jm_r 206 = none := rfl
theorem jm_206 : jm_m 206 = 4 := rfl
theorem jb_207 : jm_b 207 = cX9_readSnake := rfl
theorem jo_207 : jm_o 207 = 9 := rfl
theorem jr_207 : jm_r 207 = none := rfl
theorem jm_207 : jm_m 207 = 5 := rfl
theorem jb_208 : jm_b 208 = cX8_isOpen := rfl
theorem jo_208 : jm_o 208 = 8 := rfl
theorem jr_208 : jm_r 208 = (some .boolean) := rfl
theorem jm_208 : jm_m 208 = 2 := rfl
theorem jb_209 : jm_b 209 = cX8_to := rfl
theorem jo_209 : jm_o 209 = 8 := rfl
theorem jr_209 : jm_r 209 = (some .int) := rfl
theorem jm_209 : jm_m 209 = 4 := rfl
theorem jb_210 : jm_b 210 = cX8_cells := rfl
theorem jo_210 : jm_o 210 = 8 := rfl
theorem jr_210 : jm_r 210 = (some .int) := rfl
theorem jm_210 : jm_m 210 = 1 := rfl
theorem jb_211 : jm_b 211 = cX9_readFrame := rfl
theorem jo_211 : jm_o 211 = 9 := rfl
theorem jr_211 : jm_r 211 = none := rfl
theorem jm_211 : jm_m 211 = 4 := rfl
theorem jb_212 : jm_b 212 = cX9_startsFrom := rfl
theorem jo_212 : jm_o 212 = 9 := rfl
theorem jr_212 : jm_r 212 = none := rfl
theorem jm_212 : jm_m 212 = 5 := rfl
theorem jb_213 : jm_b 213 = cX9_good := rfl
theorem jo_213 : jm_o 213 = 9 := rfl
theorem jr_213 : jm_r 213 = (some .int) := rfl
theorem jm_213 : jm_m 213 = 2 := rfl
theorem jb_214 : jm_b 214 = cX9_fault := rfl
theorem jo_214 : jm_o 214 = 9 := rfl
theorem jr_214 : jm_r 214 = (some .int) := rfl
theorem jm_214 : jm_m 214 = 1 := rfl
theorem jb_215 : jm_b 215 = cX9_where := rfl
theorem jo_215 : jm_o 215 = 9 := rfl
theorem jr_215 : jm_r 215 = (some .int) := rfl
theorem jm_215 : jm_m 215 = 1 := rfl
theorem jb_216 : jm_b 216 = cX9_cell := rfl
theorem jo_216 : jm_o 216 = 9 := rfl
theorem jr_216 : jm_r 216 = (some .int) := rfl
theorem jm_216 : jm_m 216 = 3 := rfl
theorem jb_217 : jm_b 217 = cX9_isCell := rfl
theorem jo_217 : jm_o 217 = 9 := rfl
theorem jr_217 : jm_r 217 = (some .boolean) := rfl
theorem jm_217 : jm_m 217 = 3 := rfl
theorem jb_218 : jm_b 218 = cX9_many := rfl
theorem jo_218 : jm_o 218 = 9 := rfl
theorem jr_218 : jm_r 218 = (some .int) := rfl
theorem jm_218 : jm_m 218 = 1 := rfl
theorem jb_219 : jm_b 219 = cX9_dancer := rfl
theorem jo_219 : jm_o 219 = 9 := rfl
theorem jr_219 : jm_r 219 = (some .int) := rfl
theorem jm_219 : jm_m 219 = 3 := rfl
theorem jb_220 : jm_b 220 = cX9_isThere := rfl
theorem jo_220 : jm_o 220 = 9 := rfl
theorem jr_220 : jm_r 220 = (some .boolean) := rfl
theorem jm_220 : jm_m 220 = 2 := rfl
theorem jb_221 : jm_b 221 = cX9_cellOf := rfl
theorem jo_221 : jm_o 221 = 9 := rfl
theorem jr_221 : jm_r 221 = (some .int) := rfl
theorem jm_221 : jm_m 221 = 2 := rfl
theorem jb_222 : jm_b 222 = cX9_gapOf := rfl
theorem jo_222 : jm_o 222 = 9 := rfl
theorem jr_222 : jm_r 222 = (some .int) := rfl
theorem jm_222 : jm_m 222 = 2 := rfl
theorem jb_223 : jm_b 223 = cX9_stands := rfl
theorem jo_223 : jm_o 223 = 9 := rfl
theorem jr_223 : jm_r 223 = (some .int) := rfl
theorem jm_223 : jm_m 223 = 4 := rfl
theorem jb_224 : jm_b 224 = cX9_way := rfl
theorem jo_224 : jm_o 224 = 9 := rfl
theorem jr_224 : jm_r 224 = (some .int) := rfl
theorem jm_224 : jm_m 224 = 2 := rfl
theorem jb_225 : jm_b 225 = cX9_length := rfl
theorem jo_225 : jm_o 225 = 9 := rfl
theorem jr_225 : jm_r 225 = (some .int) := rfl
theorem jm_225 : jm_m 225 = 1 := rfl
theorem jb_226 : jm_b 226 = cX9_corners := rfl
theorem jo_226 : jm_o 226 = 9 := rfl
theorem jr_226 : jm_r 226 = (some .int) := rfl
theorem jm_226 : jm_m 226 = 3 := rfl
theorem jb_227 : jm_b 227 = cX9_turnsAt := rfl
theorem jo_227 : jm_o 227 = 9 := rfl
theorem jr_227 : jm_r 227 = (some .boolean) := rfl
theorem jm_227 : jm_m 227 = 3 := rfl
theorem jb_228 : jm_b 228 = cX9_sideFrom := rfl
theorem jo_228 : jm_o 228 = 9 := rfl
theorem jr_228 : jm_r 228 = (some .int) := rfl
theorem jm_228 : jm_m 228 = 4 := rfl
theorem jb_229 : jm_b 229 = cX9_sits := rfl
theorem jo_229 : jm_o 229 = 9 := rfl
theorem jr_229 : jm_r 229 = (some .int) := rfl
theorem jm_229 : jm_m 229 = 2 := rfl
theorem jb_230 : jm_b 230 = cX9_isTable := rfl
theorem jo_230 : jm_o 230 = 9 := rfl
theorem jr_230 : jm_r 230 = (some .boolean) := rfl
theorem jm_230 : jm_m 230 = 2 := rfl
theorem jb_231 : jm_b 231 = cX9_over := rfl
theorem jo_231 : jm_o 231 = 9 := rfl
theorem jr_231 : jm_r 231 = (some .int) := rfl
theorem jm_231 : jm_m 231 = 1 := rfl
theorem jb_232 : jm_b 232 = cX9_overBy := rfl
theorem jo_232 : jm_o 232 = 9 := rfl
theorem jr_232 : jm_r 232 = (some .int) := rfl
theorem jm_232 : jm_m 232 = 1 := rfl
theorem jb_233 : jm_b 233 = cX9_manyIn := rfl
theorem jo_233 : jm_o 233 = 9 := rfl
theorem jr_233 : jm_r 233 = (some .int) := rfl
theorem jm_233 : jm_m 233 = 3 := rfl
theorem jb_234 : jm_b 234 = cX9_refusesIn := rfl
theorem jo_234 : jm_o 234 = 9 := rfl
theorem jr_234 : jm_r 234 = (some .int) := rfl
theorem jm_234 : jm_m 234 = 2 := rfl
theorem jb_235 : jm_b 235 = cX9_dances := rfl
theorem jo_235 : jm_o 235 = 9 := rfl
theorem jr_235 : jm_r 235 = none := rfl
theorem jm_235 : jm_m 235 = 3 := rfl
theorem jb_236 : jm_b 236 = cX9_copies := rfl
theorem jo_236 : jm_o 236 = 9 := rfl
theorem jr_236 : jm_r 236 = none := rfl
theorem jm_236 : jm_m 236 = 2 := rfl
theorem jb_237 : jm_b 237 = cX9_plainly := rfl
theorem jo_237 : jm_o 237 = 9 := rfl
theorem jr_237 : jm_r 237 = none := rfl
theorem jm_237 : jm_m 237 = 2 := rfl
theorem jb_238 : jm_b 238 = cX9_beats := rfl
theorem jo_238 : jm_o 238 = 9 := rfl
theorem jr_238 : jm_r 238 = none := rfl
theorem jm_238 : jm_m 238 = 5 := rfl
theorem jb_239 : jm_b 239 = cX9_frontGoes := rfl
theorem jo_239 : jm_o 239 = 9 := rfl
theorem jr_239 : jm_r 239 = none := rfl
theorem jm_239 : jm_m 239 = 7 := rfl
theorem jb_240 : jm_b 240 = cX9_leads := rfl
theorem jo_240 : jm_o 240 = 9 := rfl
theorem jr_240 : jm_r 240 = (some .int) := rfl
theorem jm_240 : jm_m 240 = 3 := rfl
theorem jb_241 : jm_b 241 = cX9_firstSide := rfl
theorem jo_241 : jm_o 241 = 9 := rfl
theorem jr_241 : jm_r 241 = (some .int) := rfl
theorem jm_241 : jm_m 241 = 6 := rfl
theorem jb_242 : jm_b 242 = cX9_canGo := rfl
theorem jo_242 : jm_o 242 = 9 := rfl
theorem jr_242 : jm_r 242 = (some .boolean) := rfl
theorem jm_242 : jm_m 242 = 4 := rfl
theorem jb_243 : jm_b 243 = cX9_isStoodOn := rfl
theorem jo_243 : jm_o 243 = 9 := rfl
theorem jr_243 : jm_r 243 = (some .boolean) := rfl
theorem jm_243 : jm_m 243 = 4 := rfl
theorem jb_244 : jm_b 244 = cX9_closes := rfl
theorem jo_244 : jm_o 244 = 9 := rfl
theorem jr_244 : jm_r 244 = (some .boolean) := rfl
theorem jm_244 : jm_m 244 = 2 := rfl
theorem jb_245 : jm_b 245 = cX9_sideByLot := rfl
theorem jo_245 : jm_o 245 = 9 := rfl
theorem jr_245 : jm_r 245 = (some .int) := rfl
theorem jm_245 : jm_m 245 = 5 := rfl
theorem jb_246 : jm_b 246 = cX9_drawn := rfl
theorem jo_246 : jm_o 246 = 9 := rfl
theorem jr_246 : jm_r 246 = (some .int) := rfl
theorem jm_246 : jm_m 246 = 1 := rfl
theorem jb_247 : jm_b 247 = cX9_sideHome := rfl
theorem jo_247 : jm_o 247 = 9 := rfl
theorem jr_247 : jm_r 247 = (some .int) := rfl
theorem jm_247 : jm_m 247 = 7 := rfl
theorem jb_248 : jm_b 248 = cX9_laysFar := rfl
theorem jo_248 : jm_o 248 = 9 := rfl
theorem jr_248 : jm_r 248 = none := rfl
theorem jm_248 : jm_m 248 = 7 := rfl
theorem jb_249 : jm_b 249 = cX9_sideTold := rfl
theorem jo_249 : jm_o 249 = 9 := rfl
theorem jr_249 : jm_r 249 = (some .int) := rfl
theorem jm_249 : jm_m 249 = 3 := rfl
theorem jb_250 : jm_b 250 = cX9_follows := rfl
theorem jo_250 : jm_o 250 = 9 := rfl
theorem jr_250 : jm_r 250 = none := rfl
theorem jm_250 : jm_m 250 = 5 := rfl
theorem jb_251 : jm_b 251 = cX9_tears := rfl
theorem jo_251 : jm_o 251 = 9 := rfl
theorem jr_251 : jm_r 251 = (some .int) := rfl
theorem jm_251 : jm_m 251 = 3 := rfl
theorem jb_252 : jm_b 252 = cX9_auntsLeave := rfl
theorem jo_252 : jm_o 252 = 9 := rfl
theorem jr_252 : jm_r 252 = none := rfl
theorem jm_252 : jm_m 252 = 3 := rfl
theorem jb_253 : jm_b 253 = cX9_outs := rfl
theorem jo_253 : jm_o 253 = 9 := rfl
theorem jr_253 : jm_r 253 = none := rfl
theorem jm_253 : jm_m 253 = 3 := rfl
theorem jb_254 : jm_b 254 = cX9_moves := rfl
theorem jo_254 : jm_o 254 = 9 := rfl
theorem jr_254 : jm_r 254 = none := rfl
theorem jm_254 : jm_m 254 = 3 := rfl
theorem jb_255 : jm_b 255 = cX9_asks := rfl
theorem jo_255 : jm_o 255 = 9 := rfl
theorem jr_255 : jm_r 255 = none := rfl
theorem jm_255 : jm_m 255 = 9 := rfl
theorem jb_256 : jm_b 256 = cX8_isBeside := rfl
theorem jo_256 : jm_o 256 = 8 := rfl
theorem jr_256 : jm_r 256 = (some .boolean) := rfl
theorem jm_256 : jm_m 256 = 4 := rfl
theorem jb_257 : jm_b 257 = cX9_at := rfl
theorem jo_257 : jm_o 257 = 9 := rfl
theorem jr_257 : jm_r 257 = (some .int) := rfl
theorem jm_257 : jm_m 257 = 5 := rfl
theorem jb_258 : jm_b 258 = cX9_indexOf := rfl
theorem jo_258 : jm_o 258 = 9 := rfl
theorem jr_258 : jm_r 258 = (some .int) := rfl
theorem jm_258 : jm_m 258 = 3 := rfl
theorem jb_259 : jm_b 259 = cX9_ran := rfl
theorem jo_259 : jm_o 259 = 9 := rfl
theorem jr_259 : jm_r 259 = (some .int) := rfl
theorem jm_259 : jm_m 259 = 4 := rfl
theorem jb_260 : jm_b 260 = cX9_runner := rfl
theorem jo_260 : jm_o 260 = 9 := rfl
theorem jr_260 : jm_r 260 = (some .int) := rfl
theorem jm_260 : jm_m 260 = 5 := rfl
theorem jb_261 : jm_b 261 = cX9_widest := rfl
theorem jo_261 : jm_o 261 = 9 := rfl
theorem jr_261 : jm_r 261 = (some .int) := rfl
theorem jm_261 : jm_m 261 = 5 := rfl
theorem jb_262 : jm_b 262 = cX9_torn := rfl
theorem jo_262 : jm_o 262 = 9 := rfl
theorem jr_262 : jm_r 262 = (some .int) := rfl
theorem jm_262 : jm_m 262 = 3 := rfl
theorem jb_263 : jm_b 263 = cX9_tornIn := rfl
theorem jo_263 : jm_o 263 = 9 := rfl
theorem jr_263 : jm_r 263 = (some .int) := rfl
theorem jm_263 : jm_m 263 = 3 := rfl
theorem jb_264 : jm_b 264 = cX9_tornBy := rfl
theorem jo_264 : jm_o 264 = 9 := rfl
theorem jr_264 : jm_r 264 = (some .int) := rfl
theorem jm_264 : jm_m 264 = 3 := rfl
theorem jb_265 : jm_b 265 = cX9_joined := rfl
theorem jo_265 : jm_o 265 = 9 := rfl
theorem jr_265 : jm_r 265 = (some .int) := rfl
theorem jm_265 : jm_m 265 = 3 := rfl
theorem jb_266 : jm_b 266 = cX9_ring := rfl
theorem jo_266 : jm_o 266 = 9 := rfl
theorem jr_266 : jm_r 266 = (some .int) := rfl
theorem jm_266 : jm_m 266 = 4 := rfl
theorem jb_267 : jm_b 267 = cX9_jolt := rfl
theorem jo_267 : jm_o 267 = 9 := rfl
theorem jr_267 : jm_r 267 = (some .int) := rfl
theorem jm_267 : jm_m 267 = 3 := rfl
theorem jb_268 : jm_b 268 = cX9_jolts := rfl
theorem jo_268 : jm_o 268 = 9 := rfl
theorem jr_268 : jm_r 268 = none := rfl
theorem jm_268 : jm_m 268 = 4 := rfl
theorem jb_269 : jm_b 269 = cX9_joltOf := rfl
theorem jo_269 : jm_o 269 = 9 := rfl
theorem jr_269 : jm_r 269 = (some .int) := rfl
theorem jm_269 : jm_m 269 = 2 := rfl
theorem jb_270 : jm_b 270 = cX9_grows := rfl
theorem jo_270 : jm_o 270 = 9 := rfl
theorem jr_270 : jm_r 270 = (some .int) := rfl
theorem jm_270 : jm_m 270 = 5 := rfl
theorem jb_271 : jm_b 271 = cX9_holds := rfl
theorem jo_271 : jm_o 271 = 9 := rfl
theorem jr_271 : jm_r 271 = (some .int) := rfl
theorem jm_271 : jm_m 271 = 3 := rfl
theorem jb_272 : jm_b 272 = cX9_order := rfl
theorem jo_272 : jm_o 272 = 9 := rfl
theorem jr_272 : jm_r 272 = (some .int) := rfl
theorem jm_272 : jm_m 272 = 1 := rfl
theorem jb_273 : jm_b 273 = cX9_findsOrder := rfl
theorem jo_273 : jm_o 273 = 9 := rfl
theorem jr_273 : jm_r 273 = none := rfl
theorem jm_273 : jm_m 273 = 4 := rfl
theorem jb_274 : jm_b 274 = cX9_turns := rfl
theorem jo_274 : jm_o 274 = 9 := rfl
theorem jr_274 : jm_r 274 = (some .boolean) := rfl
theorem jm_274 : jm_m 274 = 6 := rfl
theorem jb_275 : jm_b 275 = cX9_swaps := rfl
theorem jo_275 : jm_o 275 = 9 := rfl
theorem jr_275 : jm_r 275 = none := rfl
theorem jm_275 : jm_m 275 = 4 := rfl
theorem jb_276 : jm_b 276 = cX9_orderAt := rfl
theorem jo_276 : jm_o 276 = 9 := rfl
theorem jr_276 : jm_r 276 = (some .int) := rfl
theorem jm_276 : jm_m 276 = 2 := rfl
theorem jb_277 : jm_b 277 = cX9_leader := rfl
theorem jo_277 : jm_o 277 = 9 := rfl
theorem jr_277 : jm_r 277 = (some .int) := rfl
theorem jm_277 : jm_m 277 = 7 := rfl
theorem jb_278 : jm_b 278 = cX9_plan := rfl
theorem jo_278 : jm_o 278 = 9 := rfl
theorem jr_278 : jm_r 278 = (some .int) := rfl
theorem jm_278 : jm_m 278 = 3 := rfl
theorem jb_279 : jm_b 279 = cX9_refusesPlan := rfl
theorem jo_279 : jm_o 279 = 9 := rfl
theorem jr_279 : jm_r 279 = (some .int) := rfl
theorem jm_279 : jm_m 279 = 2 := rfl
theorem jb_280 : jm_b 280 = cX9_plans := rfl
theorem jo_280 : jm_o 280 = 9 := rfl
theorem jr_280 : jm_r 280 = none := rfl
theorem jm_280 : jm_m 280 = 4 := rfl
theorem jb_281 : jm_b 281 = cX9_planAt := rfl
theorem jo_281 : jm_o 281 = 9 := rfl
theorem jr_281 : jm_r 281 = (some .int) := rfl
theorem jm_281 : jm_m 281 = 4 := rfl
theorem jb_282 : jm_b 282 = cX9_mean := rfl
theorem jo_282 : jm_o 282 = 9 := rfl
theorem jr_282 : jm_r 282 = (some .int) := rfl
theorem jm_282 : jm_m 282 = 7 := rfl
theorem jb_283 : jm_b 283 = cX9_late := rfl
theorem jo_283 : jm_o 283 = 9 := rfl
theorem jr_283 : jm_r 283 = (some .int) := rfl
theorem jm_283 : jm_m 283 = 3 := rfl
theorem jb_284 : jm_b 284 = cX9_lateAt := rfl
theorem jo_284 : jm_o 284 = 9 := rfl
theorem jr_284 : jm_r 284 = (some .int) := rfl
theorem jm_284 : jm_m 284 = 3 := rfl
theorem jb_285 : jm_b 285 = cX8_far := rfl
theorem jo_285 : jm_o 285 = 8 := rfl
theorem jr_285 : jm_r 285 = (some .int) := rfl
theorem jm_285 : jm_m 285 = 5 := rfl
theorem jb_286 : jm_b 286 = cX9_kicks := rfl
theorem jo_286 : jm_o 286 = 9 := rfl
theorem jr_286 : jm_r 286 = (some .int) := rfl
theorem jm_286 : jm_m 286 = 1 := rfl
theorem jb_287 : jm_b 287 = cX9_inTime := rfl
theorem jo_287 : jm_o 287 = 9 := rfl
theorem jr_287 : jm_r 287 = (some .int) := rfl
theorem jm_287 : jm_m 287 = 2 := rfl
theorem jb_288 : jm_b 288 = cX9_refusesBand := rfl
theorem jo_288 : jm_o 288 = 9 := rfl
theorem jr_288 : jm_r 288 = (some .int) := rfl
theorem jm_288 : jm_m 288 = 1 := rfl
theorem jb_289 : jm_b 289 = cX9_inTimeBy := rfl
theorem jo_289 : jm_o 289 = 9 := rfl
theorem jr_289 : jm_r 289 = (some .int) := rfl
theorem jm_289 : jm_m 289 = 4 := rfl
theorem jb_290 : jm_b 290 = cX9_bestBand := rfl
theorem jo_290 : jm_o 290 = 9 := rfl
theorem jr_290 : jm_r 290 = (some .int) := rfl
theorem jm_290 : jm_m 290 = 4 := rfl
theorem jb_291 : jm_b 291 = cX9_out := rfl
theorem jo_291 : jm_o 291 = 9 := rfl
theorem jr_291 : jm_r 291 = (some .int) := rfl
theorem jm_291 : jm_m 291 = 1 := rfl
theorem jb_292 : jm_b 292 = cX9_fits := rfl
theorem jo_292 : jm_o 292 = 9 := rfl
theorem jr_292 : jm_r 292 = (some .int) := rfl
theorem jm_292 : jm_m 292 = 3 := rfl
theorem jb_293 : jm_b 293 = cX9_fitsBy := rfl
theorem jo_293 : jm_o 293 = 9 := rfl
theorem jr_293 : jm_r 293 = (some .boolean) := rfl
theorem jm_293 : jm_m 293 = 6 := rfl
theorem jb_294 : jm_b 294 = cX9_dance := rfl
theorem jo_294 : jm_o 294 = 9 := rfl
theorem jr_294 : jm_r 294 = (some .int) := rfl
theorem jm_294 : jm_m 294 = 3 := rfl
theorem jb_295 : jm_b 295 = cX9_keeps := rfl
theorem jo_295 : jm_o 295 = 9 := rfl
theorem jr_295 : jm_r 295 = none := rfl
theorem jm_295 : jm_m 295 = 2 := rfl
theorem jb_296 : jm_b 296 = cX9_lead := rfl
theorem jo_296 : jm_o 296 = 9 := rfl
theorem jr_296 : jm_r 296 = (some .boolean) := rfl
theorem jm_296 : jm_m 296 = 2 := rfl
theorem jb_297 : jm_b 297 = cX9_denied := rfl
theorem jo_297 : jm_o 297 = 9 := rfl
theorem jr_297 : jm_r 297 = (some .boolean) := rfl
theorem jm_297 : jm_m 297 = 2 := rfl
theorem jb_298 : jm_b 298 = cX9_granted := rfl
theorem jo_298 : jm_o 298 = 9 := rfl
theorem jr_298 : jm_r 298 = (some .boolean) := rfl
theorem jm_298 : jm_m 298 = 1 := rfl
theorem jb_299 : jm_b 299 = cX9_change := rfl
theorem jo_299 : jm_o 299 = 9 := rfl
theorem jr_299 : jm_r 299 = (some .boolean) := rfl
theorem jm_299 : jm_m 299 = 3 := rfl
theorem jb_300 : jm_b 300 = cX9_swapsIn := rfl
theorem jo_300 : jm_o 300 = 9 := rfl
theorem jr_300 : jm_r 300 = none := rfl
theorem jm_300 : jm_m 300 = 5 := rfl
theorem jb_301 : jm_b 301 = cX9_letGo := rfl
theorem jo_301 : jm_o 301 = 9 := rfl
theorem jr_301 : jm_r 301 = (some .boolean) := rfl
theorem jm_301 : jm_m 301 = 2 := rfl
theorem jb_302 : jm_b 302 = cX9_band := rfl
theorem jo_302 : jm_o 302 = 9 := rfl
theorem jr_302 : jm_r 302 = (some .boolean) := rfl
theorem jm_302 : jm_m 302 = 3 := rfl
theorem jb_303 : jm_b 303 = cX9_seed := rfl
theorem jo_303 : jm_o 303 = 9 := rfl
theorem jr_303 : jm_r 303 = (some .boolean) := rfl
theorem jm_303 : jm_m 303 = 2 := rfl
theorem jb_304 : jm_b 304 = cX9_undo := rfl
theorem jo_304 : jm_o 304 = 9 := rfl
theorem jr_304 : jm_r 304 = (some .boolean) := rfl
theorem jm_304 : jm_m 304 = 2 := rfl
theorem jb_305 : jm_b 305 = cX9_mark := rfl
theorem jo_305 : jm_o 305 = 9 := rfl
theorem jr_305 : jm_r 305 = (some .int) := rfl
theorem jm_305 : jm_m 305 = 2 := rfl
theorem jb_306 : jm_b 306 = cX9_back := rfl
theorem jo_306 : jm_o 306 = 9 := rfl
theorem jr_306 : jm_r 306 = (some .boolean) := rfl
theorem jm_306 : jm_m 306 = 3 := rfl
theorem jb_307 : jm_b 307 = cX9_table := rfl
theorem jo_307 : jm_o 307 = 9 := rfl
theorem jr_307 : jm_r 307 = (some .int) := rfl
theorem jm_307 : jm_m 307 = 3 := rfl
theorem jb_308 : jm_b 308 = cX9_steps := rfl
theorem jo_308 : jm_o 308 = 9 := rfl
theorem jr_308 : jm_r 308 = (some .int) := rfl
theorem jm_308 : jm_m 308 = 2 := rfl
theorem jb_309 : jm_b 309 = cX9_led := rfl
theorem jo_309 : jm_o 309 = 9 := rfl
theorem jr_309 : jm_r 309 = (some .int) := rfl
theorem jm_309 : jm_m 309 = 4 := rfl
theorem jb_310 : jm_b 310 = cX9_size := rfl
theorem jo_310 : jm_o 310 = 9 := rfl
theorem jr_310 : jm_r 310 = (some .int) := rfl
theorem jm_310 : jm_m 310 = 2 := rfl
theorem jb_311 : jm_b 311 = cX9_trouble := rfl
theorem jo_311 : jm_o 311 = 9 := rfl
theorem jr_311 : jm_r 311 = (some .int) := rfl
theorem jm_311 : jm_m 311 = 1 := rfl
theorem jb_312 : jm_b 312 = code := rfl
theorem jo_312 : jm_o 312 = 10 := rfl
theorem jr_312 : jm_r 312 = some .boolean := rfl
theorem jm_312 : jm_m 312 = 7 := rfl
theorem jf_0_1 : jm_fit2 0 1 = true := by decide +kernel
theorem jf_0_2 : jm_fit2 0 2 = true := by decide +kernel
theorem jf_0_6 : jm_fit2 0 6 = true := by decide +kernel
theorem jf_0_7 : jm_fit2 0 7 = true := by decide +kernel
theorem jf_0_8 : jm_fit2 0 8 = true := by decide +kernel
theorem jf_0_9 : jm_fit2 0 9 = true := by decide +kernel
theorem jf_0_10 : jm_fit2 0 10 = true := by decide +kernel
theorem jf_2_1 : jm_fit2 2 1 = true := by decide +kernel
theorem jf_2_3 : jm_fit2 2 3 = true := by decide +kernel
theorem jf_3_4 : jm_fit2 3 4 = true := by decide +kernel
theorem jf_4_5 : jm_fit2 4 5 = true := by decide +kernel
theorem jf_6_1 : jm_fit2 6 1 = true := by decide +kernel
theorem jf_7_1 : jm_fit2 7 1 = true := by decide +kernel
theorem jf_8_1 : jm_fit2 8 1 = true := by decide +kernel
theorem jf_8_7 : jm_fit2 8 7 = true := by decide +kernel
theorem jf_9_7 : jm_fit2 9 7 = true := by decide +kernel
theorem jf_10_1 : jm_fit2 10 1 = true := by decide +kernel
theorem jf_11_12 : jm_fit2 11 12 = true := by decide +kernel
theorem jf_11_13 : jm_fit2 11 13 = true := by decide +kernel
theorem jf_13_14 : jm_fit2 13 14 = true := by decide +kernel
theorem jf_14_15 : jm_fit2 14 15 = true := by decide +kernel
theorem jf_14_17 : jm_fit2 14 17 = true := by decide +kernel
theorem jf_15_16 : jm_fit2 15 16 = true := by decide +kernel
theorem jf_15_17 : jm_fit2 15 17 = true := by decide +kernel
theorem jf_18_4 : jm_fit2 18 4 = true := by decide +kernel
theorem jf_18_12 : jm_fit2 18 12 = true := by decide +kernel
theorem jf_18_19 : jm_fit2 18 19 = true := by decide +kernel
theorem jf_18_20 : jm_fit2 18 20 = true := by decide +kernel
theorem jf_18_53 : jm_fit2 18 53 = true := by decide +kernel
theorem jf_18_55 : jm_fit2 18 55 = true := by decide +kernel
theorem jf_18_59 : jm_fit2 18 59 = true := by decide +kernel
theorem jf_18_60 : jm_fit2 18 60 = true := by decide +kernel
theorem jf_18_61 : jm_fit2 18 61 = true := by decide +kernel
theorem jf_18_62 : jm_fit2 18 62 = true := by decide +kernel
theorem jf_20_21 : jm_fit2 20 21 = true := by decide +kernel
theorem jf_20_25 : jm_fit2 20 25 = true := by decide +kernel
theorem jf_20_30 : jm_fit2 20 30 = true := by decide +kernel
theorem jf_20_31 : jm_fit2 20 31 = true := by decide +kernel
theorem jf_20_34 : jm_fit2 20 34 = true := by decide +kernel
theorem jf_20_35 : jm_fit2 20 35 = true := by decide +kernel
theorem jf_20_37 : jm_fit2 20 37 = true := by decide +kernel
theorem jf_20_39 : jm_fit2 20 39 = true := by decide +kernel
theorem jf_20_40 : jm_fit2 20 40 = true := by decide +kernel
theorem jf_20_42 : jm_fit2 20 42 = true := by decide +kernel
theorem jf_20_43 : jm_fit2 20 43 = true := by decide +kernel
theorem jf_20_47 : jm_fit2 20 47 = true := by decide +kernel
theorem jf_20_48 : jm_fit2 20 48 = true := by decide +kernel
theorem jf_20_51 : jm_fit2 20 51 = true := by decide +kernel
theorem jf_20_52 : jm_fit2 20 52 = true := by decide +kernel
theorem jf_21_3 : jm_fit2 21 3 = true := by decide +kernel
theorem jf_21_4 : jm_fit2 21 4 = true := by decide +kernel
theorem jf_21_22 : jm_fit2 21 22 = true := by decide +kernel
theorem jf_22_5 : jm_fit2 22 5 = true := by decide +kernel
theorem jf_22_23 : jm_fit2 22 23 = true := by decide +kernel
theorem jf_22_24 : jm_fit2 22 24 = true := by decide +kernel
theorem jf_25_22 : jm_fit2 25 22 = true := by decide +kernel
theorem jf_25_26 : jm_fit2 25 26 = true := by decide +kernel
theorem jf_25_27 : jm_fit2 25 27 = true := by decide +kernel
theorem jf_25_30 : jm_fit2 25 30 = true := by decide +kernel
theorem jf_26_23 : jm_fit2 26 23 = true := by decide +kernel
theorem jf_27_12 : jm_fit2 27 12 = true := by decide +kernel
theorem jf_27_28 : jm_fit2 27 28 = true := by decide +kernel
theorem jf_27_29 : jm_fit2 27 29 = true := by decide +kernel
theorem jf_28_12 : jm_fit2 28 12 = true := by decide +kernel
theorem jf_31_32 : jm_fit2 31 32 = true := by decide +kernel
theorem jf_31_33 : jm_fit2 31 33 = true := by decide +kernel
theorem jf_32_22 : jm_fit2 32 22 = true := by decide +kernel
theorem jf_32_26 : jm_fit2 32 26 = true := by decide +kernel
theorem jf_32_30 : jm_fit2 32 30 = true := by decide +kernel
theorem jf_33_22 : jm_fit2 33 22 = true := by decide +kernel
theorem jf_33_30 : jm_fit2 33 30 = true := by decide +kernel
theorem jf_34_14 : jm_fit2 34 14 = true := by decide +kernel
theorem jf_34_22 : jm_fit2 34 22 = true := by decide +kernel
theorem jf_34_23 : jm_fit2 34 23 = true := by decide +kernel
theorem jf_34_30 : jm_fit2 34 30 = true := by decide +kernel
theorem jf_35_32 : jm_fit2 35 32 = true := by decide +kernel
theorem jf_35_33 : jm_fit2 35 33 = true := by decide +kernel
theorem jf_35_36 : jm_fit2 35 36 = true := by decide +kernel
theorem jf_36_33 : jm_fit2 36 33 = true := by decide +kernel
theorem jf_36_37 : jm_fit2 36 37 = true := by decide +kernel
theorem jf_36_38 : jm_fit2 36 38 = true := by decide +kernel
theorem jf_37_22 : jm_fit2 37 22 = true := by decide +kernel
theorem jf_37_30 : jm_fit2 37 30 = true := by decide +kernel
theorem jf_39_36 : jm_fit2 39 36 = true := by decide +kernel
theorem jf_40_22 : jm_fit2 40 22 = true := by decide +kernel
theorem jf_40_41 : jm_fit2 40 41 = true := by decide +kernel
theorem jf_41_12 : jm_fit2 41 12 = true := by decide +kernel
theorem jf_41_14 : jm_fit2 41 14 = true := by decide +kernel
theorem jf_41_30 : jm_fit2 41 30 = true := by decide +kernel
theorem jf_41_32 : jm_fit2 41 32 = true := by decide +kernel
theorem jf_41_33 : jm_fit2 41 33 = true := by decide +kernel
theorem jf_42_22 : jm_fit2 42 22 = true := by decide +kernel
theorem jf_42_32 : jm_fit2 42 32 = true := by decide +kernel
theorem jf_42_41 : jm_fit2 42 41 = true := by decide +kernel
theorem jf_43_12 : jm_fit2 43 12 = true := by decide +kernel
theorem jf_43_14 : jm_fit2 43 14 = true := by decide +kernel
theorem jf_43_17 : jm_fit2 43 17 = true := by decide +kernel
theorem jf_43_23 : jm_fit2 43 23 = true := by decide +kernel
theorem jf_43_30 : jm_fit2 43 30 = true := by decide +kernel
theorem jf_43_32 : jm_fit2 43 32 = true := by decide +kernel
theorem jf_43_33 : jm_fit2 43 33 = true := by decide +kernel
theorem jf_43_36 : jm_fit2 43 36 = true := by decide +kernel
theorem jf_43_44 : jm_fit2 43 44 = true := by decide +kernel
theorem jf_43_46 : jm_fit2 43 46 = true := by decide +kernel
theorem jf_44_12 : jm_fit2 44 12 = true := by decide +kernel
theorem jf_44_14 : jm_fit2 44 14 = true := by decide +kernel
theorem jf_44_17 : jm_fit2 44 17 = true := by decide +kernel
theorem jf_44_22 : jm_fit2 44 22 = true := by decide +kernel
theorem jf_44_23 : jm_fit2 44 23 = true := by decide +kernel
theorem jf_44_26 : jm_fit2 44 26 = true := by decide +kernel
theorem jf_44_30 : jm_fit2 44 30 = true := by decide +kernel
theorem jf_44_45 : jm_fit2 44 45 = true := by decide +kernel
theorem jf_45_23 : jm_fit2 45 23 = true := by decide +kernel
theorem jf_46_17 : jm_fit2 46 17 = true := by decide +kernel
theorem jf_46_32 : jm_fit2 46 32 = true := by decide +kernel
theorem jf_46_33 : jm_fit2 46 33 = true := by decide +kernel
theorem jf_47_12 : jm_fit2 47 12 = true := by decide +kernel
theorem jf_47_14 : jm_fit2 47 14 = true := by decide +kernel
theorem jf_47_46 : jm_fit2 47 46 = true := by decide +kernel
theorem jf_48_12 : jm_fit2 48 12 = true := by decide +kernel
theorem jf_48_30 : jm_fit2 48 30 = true := by decide +kernel
theorem jf_48_32 : jm_fit2 48 32 = true := by decide +kernel
theorem jf_48_36 : jm_fit2 48 36 = true := by decide +kernel
theorem jf_48_49 : jm_fit2 48 49 = true := by decide +kernel
theorem jf_48_50 : jm_fit2 48 50 = true := by decide +kernel
theorem jf_49_12 : jm_fit2 49 12 = true := by decide +kernel
theorem jf_49_23 : jm_fit2 49 23 = true := by decide +kernel
theorem jf_50_38 : jm_fit2 50 38 = true := by decide +kernel
theorem jf_51_12 : jm_fit2 51 12 = true := by decide +kernel
theorem jf_51_14 : jm_fit2 51 14 = true := by decide +kernel
theorem jf_51_17 : jm_fit2 51 17 = true := by decide +kernel
theorem jf_51_32 : jm_fit2 51 32 = true := by decide +kernel
theorem jf_51_33 : jm_fit2 51 33 = true := by decide +kernel
theorem jf_51_36 : jm_fit2 51 36 = true := by decide +kernel
theorem jf_52_12 : jm_fit2 52 12 = true := by decide +kernel
theorem jf_52_30 : jm_fit2 52 30 = true := by decide +kernel
theorem jf_53_54 : jm_fit2 53 54 = true := by decide +kernel
theorem jf_54_5 : jm_fit2 54 5 = true := by decide +kernel
theorem jf_55_12 : jm_fit2 55 12 = true := by decide +kernel
theorem jf_55_17 : jm_fit2 55 17 = true := by decide +kernel
theorem jf_55_49 : jm_fit2 55 49 = true := by decide +kernel
theorem jf_55_50 : jm_fit2 55 50 = true := by decide +kernel
theorem jf_55_56 : jm_fit2 55 56 = true := by decide +kernel
theorem jf_55_57 : jm_fit2 55 57 = true := by decide +kernel
theorem jf_56_5 : jm_fit2 56 5 = true := by decide +kernel
theorem jf_57_12 : jm_fit2 57 12 = true := by decide +kernel
theorem jf_57_17 : jm_fit2 57 17 = true := by decide +kernel
theorem jf_57_23 : jm_fit2 57 23 = true := by decide +kernel
theorem jf_57_49 : jm_fit2 57 49 = true := by decide +kernel
theorem jf_57_58 : jm_fit2 57 58 = true := by decide +kernel
theorem jf_58_17 : jm_fit2 58 17 = true := by decide +kernel
theorem jf_58_23 : jm_fit2 58 23 = true := by decide +kernel
theorem jf_59_4 : jm_fit2 59 4 = true := by decide +kernel
theorem jf_59_12 : jm_fit2 59 12 = true := by decide +kernel
theorem jf_59_14 : jm_fit2 59 14 = true := by decide +kernel
theorem jf_59_17 : jm_fit2 59 17 = true := by decide +kernel
theorem jf_59_23 : jm_fit2 59 23 = true := by decide +kernel
theorem jf_59_50 : jm_fit2 59 50 = true := by decide +kernel
theorem jf_60_54 : jm_fit2 60 54 = true := by decide +kernel
theorem jf_65_19 : jm_fit2 65 19 = true := by decide +kernel
theorem jf_65_23 : jm_fit2 65 23 = true := by decide +kernel
theorem jf_65_62 : jm_fit2 65 62 = true := by decide +kernel
theorem jf_65_66 : jm_fit2 65 66 = true := by decide +kernel
theorem jf_66_38 : jm_fit2 66 38 = true := by decide +kernel
theorem jf_67_12 : jm_fit2 67 12 = true := by decide +kernel
theorem jf_67_19 : jm_fit2 67 19 = true := by decide +kernel
theorem jf_67_62 : jm_fit2 67 62 = true := by decide +kernel
theorem jf_68_19 : jm_fit2 68 19 = true := by decide +kernel
theorem jf_68_23 : jm_fit2 68 23 = true := by decide +kernel
theorem jf_68_62 : jm_fit2 68 62 = true := by decide +kernel
theorem jf_68_69 : jm_fit2 68 69 = true := by decide +kernel
theorem jf_68_70 : jm_fit2 68 70 = true := by decide +kernel
theorem jf_68_71 : jm_fit2 68 71 = true := by decide +kernel
theorem jf_69_12 : jm_fit2 69 12 = true := by decide +kernel
theorem jf_70_23 : jm_fit2 70 23 = true := by decide +kernel
theorem jf_71_23 : jm_fit2 71 23 = true := by decide +kernel
theorem jf_72_12 : jm_fit2 72 12 = true := by decide +kernel
theorem jf_72_19 : jm_fit2 72 19 = true := by decide +kernel
theorem jf_72_23 : jm_fit2 72 23 = true := by decide +kernel
theorem jf_72_62 : jm_fit2 72 62 = true := by decide +kernel
theorem jf_72_66 : jm_fit2 72 66 = true := by decide +kernel
theorem jf_72_70 : jm_fit2 72 70 = true := by decide +kernel
theorem jf_73_12 : jm_fit2 73 12 = true := by decide +kernel
theorem jf_73_19 : jm_fit2 73 19 = true := by decide +kernel
theorem jf_73_23 : jm_fit2 73 23 = true := by decide +kernel
theorem jf_73_62 : jm_fit2 73 62 = true := by decide +kernel
theorem jf_74_12 : jm_fit2 74 12 = true := by decide +kernel
theorem jf_74_19 : jm_fit2 74 19 = true := by decide +kernel
theorem jf_74_62 : jm_fit2 74 62 = true := by decide +kernel
theorem jf_75_12 : jm_fit2 75 12 = true := by decide +kernel
theorem jf_75_19 : jm_fit2 75 19 = true := by decide +kernel
theorem jf_75_23 : jm_fit2 75 23 = true := by decide +kernel
theorem jf_75_62 : jm_fit2 75 62 = true := by decide +kernel
theorem jf_75_76 : jm_fit2 75 76 = true := by decide +kernel
theorem jf_76_12 : jm_fit2 76 12 = true := by decide +kernel
theorem jf_76_23 : jm_fit2 76 23 = true := by decide +kernel
theorem jf_77_19 : jm_fit2 77 19 = true := by decide +kernel
theorem jf_77_23 : jm_fit2 77 23 = true := by decide +kernel
theorem jf_77_62 : jm_fit2 77 62 = true := by decide +kernel
theorem jf_77_78 : jm_fit2 77 78 = true := by decide +kernel
theorem jf_78_12 : jm_fit2 78 12 = true := by decide +kernel
theorem jf_79_19 : jm_fit2 79 19 = true := by decide +kernel
theorem jf_79_62 : jm_fit2 79 62 = true := by decide +kernel
theorem jf_80_12 : jm_fit2 80 12 = true := by decide +kernel
theorem jf_80_62 : jm_fit2 80 62 = true := by decide +kernel
theorem jf_80_81 : jm_fit2 80 81 = true := by decide +kernel
theorem jf_81_19 : jm_fit2 81 19 = true := by decide +kernel
theorem jf_81_82 : jm_fit2 81 82 = true := by decide +kernel
theorem jf_81_83 : jm_fit2 81 83 = true := by decide +kernel
theorem jf_82_54 : jm_fit2 82 54 = true := by decide +kernel
theorem jf_82_56 : jm_fit2 82 56 = true := by decide +kernel
theorem jf_82_60 : jm_fit2 82 60 = true := by decide +kernel
theorem jf_83_12 : jm_fit2 83 12 = true := by decide +kernel
theorem jf_83_84 : jm_fit2 83 84 = true := by decide +kernel
theorem jf_83_86 : jm_fit2 83 86 = true := by decide +kernel
theorem jf_83_96 : jm_fit2 83 96 = true := by decide +kernel
theorem jf_83_98 : jm_fit2 83 98 = true := by decide +kernel
theorem jf_83_99 : jm_fit2 83 99 = true := by decide +kernel
theorem jf_83_101 : jm_fit2 83 101 = true := by decide +kernel
theorem jf_84_85 : jm_fit2 84 85 = true := by decide +kernel
theorem jf_85_12 : jm_fit2 85 12 = true := by decide +kernel
theorem jf_85_23 : jm_fit2 85 23 = true := by decide +kernel
theorem jf_86_12 : jm_fit2 86 12 = true := by decide +kernel
theorem jf_86_14 : jm_fit2 86 14 = true := by decide +kernel
theorem jf_86_17 : jm_fit2 86 17 = true := by decide +kernel
theorem jf_86_23 : jm_fit2 86 23 = true := by decide +kernel
theorem jf_86_87 : jm_fit2 86 87 = true := by decide +kernel
theorem jf_86_88 : jm_fit2 86 88 = true := by decide +kernel
theorem jf_86_89 : jm_fit2 86 89 = true := by decide +kernel
theorem jf_86_95 : jm_fit2 86 95 = true := by decide +kernel
theorem jf_87_12 : jm_fit2 87 12 = true := by decide +kernel
theorem jf_87_17 : jm_fit2 87 17 = true := by decide +kernel
theorem jf_87_56 : jm_fit2 87 56 = true := by decide +kernel
theorem jf_87_70 : jm_fit2 87 70 = true := by decide +kernel
theorem jf_88_12 : jm_fit2 88 12 = true := by decide +kernel
theorem jf_88_17 : jm_fit2 88 17 = true := by decide +kernel
theorem jf_88_23 : jm_fit2 88 23 = true := by decide +kernel
theorem jf_88_56 : jm_fit2 88 56 = true := by decide +kernel
theorem jf_88_70 : jm_fit2 88 70 = true := by decide +kernel
theorem jf_89_90 : jm_fit2 89 90 = true := by decide +kernel
theorem jf_89_92 : jm_fit2 89 92 = true := by decide +kernel
theorem jf_89_93 : jm_fit2 89 93 = true := by decide +kernel
theorem jf_89_94 : jm_fit2 89 94 = true := by decide +kernel
theorem jf_90_23 : jm_fit2 90 23 = true := by decide +kernel
theorem jf_90_91 : jm_fit2 90 91 = true := by decide +kernel
theorem jf_92_12 : jm_fit2 92 12 = true := by decide +kernel
theorem jf_92_23 : jm_fit2 92 23 = true := by decide +kernel
theorem jf_93_12 : jm_fit2 93 12 = true := by decide +kernel
theorem jf_93_23 : jm_fit2 93 23 = true := by decide +kernel
theorem jf_94_23 : jm_fit2 94 23 = true := by decide +kernel
theorem jf_95_17 : jm_fit2 95 17 = true := by decide +kernel
theorem jf_95_23 : jm_fit2 95 23 = true := by decide +kernel
theorem jf_96_12 : jm_fit2 96 12 = true := by decide +kernel
theorem jf_96_17 : jm_fit2 96 17 = true := by decide +kernel
theorem jf_96_23 : jm_fit2 96 23 = true := by decide +kernel
theorem jf_96_95 : jm_fit2 96 95 = true := by decide +kernel
theorem jf_96_97 : jm_fit2 96 97 = true := by decide +kernel
theorem jf_97_76 : jm_fit2 97 76 = true := by decide +kernel
theorem jf_98_4 : jm_fit2 98 4 = true := by decide +kernel
theorem jf_98_12 : jm_fit2 98 12 = true := by decide +kernel
theorem jf_98_23 : jm_fit2 98 23 = true := by decide +kernel
theorem jf_98_71 : jm_fit2 98 71 = true := by decide +kernel
theorem jf_99_12 : jm_fit2 99 12 = true := by decide +kernel
theorem jf_99_23 : jm_fit2 99 23 = true := by decide +kernel
theorem jf_99_70 : jm_fit2 99 70 = true := by decide +kernel
theorem jf_99_100 : jm_fit2 99 100 = true := by decide +kernel
theorem jf_100_16 : jm_fit2 100 16 = true := by decide +kernel
theorem jf_101_12 : jm_fit2 101 12 = true := by decide +kernel
theorem jf_101_17 : jm_fit2 101 17 = true := by decide +kernel
theorem jf_101_23 : jm_fit2 101 23 = true := by decide +kernel
theorem jf_101_91 : jm_fit2 101 91 = true := by decide +kernel
theorem jf_101_102 : jm_fit2 101 102 = true := by decide +kernel
theorem jf_101_103 : jm_fit2 101 103 = true := by decide +kernel
theorem jf_102_12 : jm_fit2 102 12 = true := by decide +kernel
theorem jf_102_23 : jm_fit2 102 23 = true := by decide +kernel
theorem jf_102_70 : jm_fit2 102 70 = true := by decide +kernel
theorem jf_103_12 : jm_fit2 103 12 = true := by decide +kernel
theorem jf_103_15 : jm_fit2 103 15 = true := by decide +kernel
theorem jf_103_17 : jm_fit2 103 17 = true := by decide +kernel
theorem jf_103_23 : jm_fit2 103 23 = true := by decide +kernel
theorem jf_104_19 : jm_fit2 104 19 = true := by decide +kernel
theorem jf_104_62 : jm_fit2 104 62 = true := by decide +kernel
theorem jf_104_70 : jm_fit2 104 70 = true := by decide +kernel
theorem jf_104_81 : jm_fit2 104 81 = true := by decide +kernel
theorem jf_104_105 : jm_fit2 104 105 = true := by decide +kernel
theorem jf_105_12 : jm_fit2 105 12 = true := by decide +kernel
theorem jf_105_23 : jm_fit2 105 23 = true := by decide +kernel
theorem jf_106_19 : jm_fit2 106 19 = true := by decide +kernel
theorem jf_106_23 : jm_fit2 106 23 = true := by decide +kernel
theorem jf_106_62 : jm_fit2 106 62 = true := by decide +kernel
theorem jf_106_81 : jm_fit2 106 81 = true := by decide +kernel
theorem jf_106_105 : jm_fit2 106 105 = true := by decide +kernel
theorem jf_107_12 : jm_fit2 107 12 = true := by decide +kernel
theorem jf_107_23 : jm_fit2 107 23 = true := by decide +kernel
theorem jf_107_62 : jm_fit2 107 62 = true := by decide +kernel
theorem jf_107_81 : jm_fit2 107 81 = true := by decide +kernel
theorem jf_107_108 : jm_fit2 107 108 = true := by decide +kernel
theorem jf_108_23 : jm_fit2 108 23 = true := by decide +kernel
theorem jf_109_12 : jm_fit2 109 12 = true := by decide +kernel
theorem jf_109_62 : jm_fit2 109 62 = true := by decide +kernel
theorem jf_109_71 : jm_fit2 109 71 = true := by decide +kernel
theorem jf_109_81 : jm_fit2 109 81 = true := by decide +kernel
theorem jf_109_110 : jm_fit2 109 110 = true := by decide +kernel
theorem jf_111_62 : jm_fit2 111 62 = true := by decide +kernel
theorem jf_111_81 : jm_fit2 111 81 = true := by decide +kernel
theorem jf_112_19 : jm_fit2 112 19 = true := by decide +kernel
theorem jf_112_62 : jm_fit2 112 62 = true := by decide +kernel
theorem jf_112_81 : jm_fit2 112 81 = true := by decide +kernel
theorem jf_113_62 : jm_fit2 113 62 = true := by decide +kernel
theorem jf_113_81 : jm_fit2 113 81 = true := by decide +kernel
theorem jf_114_62 : jm_fit2 114 62 = true := by decide +kernel
theorem jf_114_81 : jm_fit2 114 81 = true := by decide +kernel
theorem jf_115_19 : jm_fit2 115 19 = true := by decide +kernel
theorem jf_115_62 : jm_fit2 115 62 = true := by decide +kernel
theorem jf_115_69 : jm_fit2 115 69 = true := by decide +kernel
theorem jf_115_116 : jm_fit2 115 116 = true := by decide +kernel
theorem jf_115_118 : jm_fit2 115 118 = true := by decide +kernel
theorem jf_116_56 : jm_fit2 116 56 = true := by decide +kernel
theorem jf_116_82 : jm_fit2 116 82 = true := by decide +kernel
theorem jf_116_83 : jm_fit2 116 83 = true := by decide +kernel
theorem jf_116_117 : jm_fit2 116 117 = true := by decide +kernel
theorem jf_117_12 : jm_fit2 117 12 = true := by decide +kernel
theorem jf_117_17 : jm_fit2 117 17 = true := by decide +kernel
theorem jf_117_23 : jm_fit2 117 23 = true := by decide +kernel
theorem jf_117_71 : jm_fit2 117 71 = true := by decide +kernel
theorem jf_117_110 : jm_fit2 117 110 = true := by decide +kernel
theorem jf_118_23 : jm_fit2 118 23 = true := by decide +kernel
theorem jf_118_105 : jm_fit2 118 105 = true := by decide +kernel
theorem jf_119_19 : jm_fit2 119 19 = true := by decide +kernel
theorem jf_119_62 : jm_fit2 119 62 = true := by decide +kernel
theorem jf_119_69 : jm_fit2 119 69 = true := by decide +kernel
theorem jf_119_116 : jm_fit2 119 116 = true := by decide +kernel
theorem jf_119_118 : jm_fit2 119 118 = true := by decide +kernel
theorem jf_119_120 : jm_fit2 119 120 = true := by decide +kernel
theorem jf_121_19 : jm_fit2 121 19 = true := by decide +kernel
theorem jf_121_62 : jm_fit2 121 62 = true := by decide +kernel
theorem jf_121_82 : jm_fit2 121 82 = true := by decide +kernel
theorem jf_121_83 : jm_fit2 121 83 = true := by decide +kernel
theorem jf_122_12 : jm_fit2 122 12 = true := by decide +kernel
theorem jf_122_19 : jm_fit2 122 19 = true := by decide +kernel
theorem jf_122_62 : jm_fit2 122 62 = true := by decide +kernel
theorem jf_122_123 : jm_fit2 122 123 = true := by decide +kernel
theorem jf_123_12 : jm_fit2 123 12 = true := by decide +kernel
theorem jf_123_23 : jm_fit2 123 23 = true := by decide +kernel
theorem jf_123_54 : jm_fit2 123 54 = true := by decide +kernel
theorem jf_123_82 : jm_fit2 123 82 = true := by decide +kernel
theorem jf_123_83 : jm_fit2 123 83 = true := by decide +kernel
theorem jf_123_124 : jm_fit2 123 124 = true := by decide +kernel
theorem jf_123_125 : jm_fit2 123 125 = true := by decide +kernel
theorem jf_123_126 : jm_fit2 123 126 = true := by decide +kernel
theorem jf_124_4 : jm_fit2 124 4 = true := by decide +kernel
theorem jf_124_14 : jm_fit2 124 14 = true := by decide +kernel
theorem jf_124_54 : jm_fit2 124 54 = true := by decide +kernel
theorem jf_125_17 : jm_fit2 125 17 = true := by decide +kernel
theorem jf_125_23 : jm_fit2 125 23 = true := by decide +kernel
theorem jf_126_12 : jm_fit2 126 12 = true := by decide +kernel
theorem jf_126_23 : jm_fit2 126 23 = true := by decide +kernel
theorem jf_126_127 : jm_fit2 126 127 = true := by decide +kernel
theorem jf_127_17 : jm_fit2 127 17 = true := by decide +kernel
theorem jf_127_23 : jm_fit2 127 23 = true := by decide +kernel
theorem jf_128_12 : jm_fit2 128 12 = true := by decide +kernel
theorem jf_128_19 : jm_fit2 128 19 = true := by decide +kernel
theorem jf_128_23 : jm_fit2 128 23 = true := by decide +kernel
theorem jf_128_62 : jm_fit2 128 62 = true := by decide +kernel
theorem jf_128_69 : jm_fit2 128 69 = true := by decide +kernel
theorem jf_128_123 : jm_fit2 128 123 = true := by decide +kernel
theorem jf_129_12 : jm_fit2 129 12 = true := by decide +kernel
theorem jf_129_62 : jm_fit2 129 62 = true := by decide +kernel
theorem jf_129_81 : jm_fit2 129 81 = true := by decide +kernel
theorem jf_129_82 : jm_fit2 129 82 = true := by decide +kernel
theorem jf_129_83 : jm_fit2 129 83 = true := by decide +kernel
theorem jf_130_12 : jm_fit2 130 12 = true := by decide +kernel
theorem jf_130_62 : jm_fit2 130 62 = true := by decide +kernel
theorem jf_130_83 : jm_fit2 130 83 = true := by decide +kernel
theorem jf_130_131 : jm_fit2 130 131 = true := by decide +kernel
theorem jf_130_132 : jm_fit2 130 132 = true := by decide +kernel
theorem jf_131_12 : jm_fit2 131 12 = true := by decide +kernel
theorem jf_131_19 : jm_fit2 131 19 = true := by decide +kernel
theorem jf_131_83 : jm_fit2 131 83 = true := by decide +kernel
theorem jf_131_132 : jm_fit2 131 132 = true := by decide +kernel
theorem jf_132_4 : jm_fit2 132 4 = true := by decide +kernel
theorem jf_132_14 : jm_fit2 132 14 = true := by decide +kernel
theorem jf_132_82 : jm_fit2 132 82 = true := by decide +kernel
theorem jf_132_133 : jm_fit2 132 133 = true := by decide +kernel
theorem jf_134_19 : jm_fit2 134 19 = true := by decide +kernel
theorem jf_134_62 : jm_fit2 134 62 = true := by decide +kernel
theorem jf_134_131 : jm_fit2 134 131 = true := by decide +kernel
theorem jf_134_133 : jm_fit2 134 133 = true := by decide +kernel
theorem jf_135_12 : jm_fit2 135 12 = true := by decide +kernel
theorem jf_135_19 : jm_fit2 135 19 = true := by decide +kernel
theorem jf_135_62 : jm_fit2 135 62 = true := by decide +kernel
theorem jf_135_82 : jm_fit2 135 82 = true := by decide +kernel
theorem jf_135_83 : jm_fit2 135 83 = true := by decide +kernel
theorem jf_136_19 : jm_fit2 136 19 = true := by decide +kernel
theorem jf_136_62 : jm_fit2 136 62 = true := by decide +kernel
theorem jf_136_66 : jm_fit2 136 66 = true := by decide +kernel
theorem jf_136_137 : jm_fit2 136 137 = true := by decide +kernel
theorem jf_137_138 : jm_fit2 137 138 = true := by decide +kernel
theorem jf_139_19 : jm_fit2 139 19 = true := by decide +kernel
theorem jf_139_62 : jm_fit2 139 62 = true := by decide +kernel
theorem jf_139_85 : jm_fit2 139 85 = true := by decide +kernel
theorem jf_140_19 : jm_fit2 140 19 = true := by decide +kernel
theorem jf_140_62 : jm_fit2 140 62 = true := by decide +kernel
theorem jf_140_141 : jm_fit2 140 141 = true := by decide +kernel
theorem jf_141_12 : jm_fit2 141 12 = true := by decide +kernel
theorem jf_141_70 : jm_fit2 141 70 = true := by decide +kernel
theorem jf_141_137 : jm_fit2 141 137 = true := by decide +kernel
theorem jf_142_12 : jm_fit2 142 12 = true := by decide +kernel
theorem jf_142_19 : jm_fit2 142 19 = true := by decide +kernel
theorem jf_142_23 : jm_fit2 142 23 = true := by decide +kernel
theorem jf_142_62 : jm_fit2 142 62 = true := by decide +kernel
theorem jf_142_141 : jm_fit2 142 141 = true := by decide +kernel
theorem jf_143_12 : jm_fit2 143 12 = true := by decide +kernel
theorem jf_143_19 : jm_fit2 143 19 = true := by decide +kernel
theorem jf_143_23 : jm_fit2 143 23 = true := by decide +kernel
theorem jf_143_57 : jm_fit2 143 57 = true := by decide +kernel
theorem jf_143_62 : jm_fit2 143 62 = true := by decide +kernel
theorem jf_143_70 : jm_fit2 143 70 = true := by decide +kernel
theorem jf_143_87 : jm_fit2 143 87 = true := by decide +kernel
theorem jf_144_19 : jm_fit2 144 19 = true := by decide +kernel
theorem jf_144_62 : jm_fit2 144 62 = true := by decide +kernel
theorem jf_144_82 : jm_fit2 144 82 = true := by decide +kernel
theorem jf_144_145 : jm_fit2 144 145 = true := by decide +kernel
theorem jf_145_12 : jm_fit2 145 12 = true := by decide +kernel
theorem jf_145_23 : jm_fit2 145 23 = true := by decide +kernel
theorem jf_145_83 : jm_fit2 145 83 = true := by decide +kernel
theorem jf_145_146 : jm_fit2 145 146 = true := by decide +kernel
theorem jf_146_23 : jm_fit2 146 23 = true := by decide +kernel
theorem jf_146_70 : jm_fit2 146 70 = true := by decide +kernel
theorem jf_146_105 : jm_fit2 146 105 = true := by decide +kernel
theorem jf_147_12 : jm_fit2 147 12 = true := by decide +kernel
theorem jf_147_19 : jm_fit2 147 19 = true := by decide +kernel
theorem jf_147_60 : jm_fit2 147 60 = true := by decide +kernel
theorem jf_147_62 : jm_fit2 147 62 = true := by decide +kernel
theorem jf_147_82 : jm_fit2 147 82 = true := by decide +kernel
theorem jf_147_83 : jm_fit2 147 83 = true := by decide +kernel
theorem jf_147_148 : jm_fit2 147 148 = true := by decide +kernel
theorem jf_148_60 : jm_fit2 148 60 = true := by decide +kernel
theorem jf_148_149 : jm_fit2 148 149 = true := by decide +kernel
theorem jf_148_150 : jm_fit2 148 150 = true := by decide +kernel
theorem jf_150_151 : jm_fit2 150 151 = true := by decide +kernel
theorem jf_152_148 : jm_fit2 152 148 = true := by decide +kernel
theorem jf_152_153 : jm_fit2 152 153 = true := by decide +kernel
theorem jf_152_154 : jm_fit2 152 154 = true := by decide +kernel
theorem jf_155_60 : jm_fit2 155 60 = true := by decide +kernel
theorem jf_155_69 : jm_fit2 155 69 = true := by decide +kernel
theorem jf_155_125 : jm_fit2 155 125 = true := by decide +kernel
theorem jf_155_148 : jm_fit2 155 148 = true := by decide +kernel
theorem jf_155_153 : jm_fit2 155 153 = true := by decide +kernel
theorem jf_155_154 : jm_fit2 155 154 = true := by decide +kernel
theorem jf_156_69 : jm_fit2 156 69 = true := by decide +kernel
theorem jf_156_100 : jm_fit2 156 100 = true := by decide +kernel
theorem jf_156_148 : jm_fit2 156 148 = true := by decide +kernel
theorem jf_156_153 : jm_fit2 156 153 = true := by decide +kernel
theorem jf_156_154 : jm_fit2 156 154 = true := by decide +kernel
theorem jf_157_23 : jm_fit2 157 23 = true := by decide +kernel
theorem jf_157_66 : jm_fit2 157 66 = true := by decide +kernel
theorem jf_157_148 : jm_fit2 157 148 = true := by decide +kernel
theorem jf_157_153 : jm_fit2 157 153 = true := by decide +kernel
theorem jf_157_154 : jm_fit2 157 154 = true := by decide +kernel
theorem jf_158_153 : jm_fit2 158 153 = true := by decide +kernel
theorem jf_158_154 : jm_fit2 158 154 = true := by decide +kernel
theorem jf_159_153 : jm_fit2 159 153 = true := by decide +kernel
theorem jf_159_154 : jm_fit2 159 154 = true := by decide +kernel
theorem jf_159_160 : jm_fit2 159 160 = true := by decide +kernel
theorem jf_160_161 : jm_fit2 160 161 = true := by decide +kernel
theorem jf_161_60 : jm_fit2 161 60 = true := by decide +kernel
theorem jf_161_150 : jm_fit2 161 150 = true := by decide +kernel
theorem jf_162_19 : jm_fit2 162 19 = true := by decide +kernel
theorem jf_162_62 : jm_fit2 162 62 = true := by decide +kernel
theorem jf_162_148 : jm_fit2 162 148 = true := by decide +kernel
theorem jf_162_149 : jm_fit2 162 149 = true := by decide +kernel
theorem jf_162_163 : jm_fit2 162 163 = true := by decide +kernel
theorem jf_164_61 : jm_fit2 164 61 = true := by decide +kernel
theorem jf_164_153 : jm_fit2 164 153 = true := by decide +kernel
theorem jf_164_154 : jm_fit2 164 154 = true := by decide +kernel
theorem jf_164_161 : jm_fit2 164 161 = true := by decide +kernel
theorem jf_165_19 : jm_fit2 165 19 = true := by decide +kernel
theorem jf_165_23 : jm_fit2 165 23 = true := by decide +kernel
theorem jf_165_62 : jm_fit2 165 62 = true := by decide +kernel
theorem jf_165_78 : jm_fit2 165 78 = true := by decide +kernel
theorem jf_166_12 : jm_fit2 166 12 = true := by decide +kernel
theorem jf_166_19 : jm_fit2 166 19 = true := by decide +kernel
theorem jf_166_23 : jm_fit2 166 23 = true := by decide +kernel
theorem jf_166_62 : jm_fit2 166 62 = true := by decide +kernel
theorem jf_167_12 : jm_fit2 167 12 = true := by decide +kernel
theorem jf_167_168 : jm_fit2 167 168 = true := by decide +kernel
theorem jf_167_169 : jm_fit2 167 169 = true := by decide +kernel
theorem jf_168_12 : jm_fit2 168 12 = true := by decide +kernel
theorem jf_169_163 : jm_fit2 169 163 = true := by decide +kernel
theorem jf_171_12 : jm_fit2 171 12 = true := by decide +kernel
theorem jf_171_23 : jm_fit2 171 23 = true := by decide +kernel
theorem jf_171_70 : jm_fit2 171 70 = true := by decide +kernel
theorem jf_175_176 : jm_fit2 175 176 = true := by decide +kernel
theorem jf_175_177 : jm_fit2 175 177 = true := by decide +kernel
theorem jf_175_178 : jm_fit2 175 178 = true := by decide +kernel
theorem jf_175_182 : jm_fit2 175 182 = true := by decide +kernel
theorem jf_175_212 : jm_fit2 175 212 = true := by decide +kernel
theorem jf_175_213 : jm_fit2 175 213 = true := by decide +kernel
theorem jf_178_179 : jm_fit2 178 179 = true := by decide +kernel
theorem jf_178_180 : jm_fit2 178 180 = true := by decide +kernel
theorem jf_178_181 : jm_fit2 178 181 = true := by decide +kernel
theorem jf_182_183 : jm_fit2 182 183 = true := by decide +kernel
theorem jf_182_187 : jm_fit2 182 187 = true := by decide +kernel
theorem jf_182_200 : jm_fit2 182 200 = true := by decide +kernel
theorem jf_183_184 : jm_fit2 183 184 = true := by decide +kernel
theorem jf_183_186 : jm_fit2 183 186 = true := by decide +kernel
theorem jf_183_187 : jm_fit2 183 187 = true := by decide +kernel
theorem jf_183_193 : jm_fit2 183 193 = true := by decide +kernel
theorem jf_183_195 : jm_fit2 183 195 = true := by decide +kernel
theorem jf_183_198 : jm_fit2 183 198 = true := by decide +kernel
theorem jf_183_199 : jm_fit2 183 199 = true := by decide +kernel
theorem jf_183_201 : jm_fit2 183 201 = true := by decide +kernel
theorem jf_183_203 : jm_fit2 183 203 = true := by decide +kernel
theorem jf_183_206 : jm_fit2 183 206 = true := by decide +kernel
theorem jf_183_207 : jm_fit2 183 207 = true := by decide +kernel
theorem jf_183_211 : jm_fit2 183 211 = true := by decide +kernel
theorem jf_184_185 : jm_fit2 184 185 = true := by decide +kernel
theorem jf_186_178 : jm_fit2 186 178 = true := by decide +kernel
theorem jf_186_184 : jm_fit2 186 184 = true := by decide +kernel
theorem jf_186_187 : jm_fit2 186 187 = true := by decide +kernel
theorem jf_186_188 : jm_fit2 186 188 = true := by decide +kernel
theorem jf_186_189 : jm_fit2 186 189 = true := by decide +kernel
theorem jf_188_189 : jm_fit2 188 189 = true := by decide +kernel
theorem jf_188_190 : jm_fit2 188 190 = true := by decide +kernel
theorem jf_189_178 : jm_fit2 189 178 = true := by decide +kernel
theorem jf_189_184 : jm_fit2 189 184 = true := by decide +kernel
theorem jf_189_187 : jm_fit2 189 187 = true := by decide +kernel
theorem jf_190_178 : jm_fit2 190 178 = true := by decide +kernel
theorem jf_190_191 : jm_fit2 190 191 = true := by decide +kernel
theorem jf_191_187 : jm_fit2 191 187 = true := by decide +kernel
theorem jf_191_192 : jm_fit2 191 192 = true := by decide +kernel
theorem jf_193_178 : jm_fit2 193 178 = true := by decide +kernel
theorem jf_193_187 : jm_fit2 193 187 = true := by decide +kernel
theorem jf_193_194 : jm_fit2 193 194 = true := by decide +kernel
theorem jf_194_178 : jm_fit2 194 178 = true := by decide +kernel
theorem jf_194_187 : jm_fit2 194 187 = true := by decide +kernel
theorem jf_195_178 : jm_fit2 195 178 = true := by decide +kernel
theorem jf_195_188 : jm_fit2 195 188 = true := by decide +kernel
theorem jf_195_194 : jm_fit2 195 194 = true := by decide +kernel
theorem jf_195_196 : jm_fit2 195 196 = true := by decide +kernel
theorem jf_196_190 : jm_fit2 196 190 = true := by decide +kernel
theorem jf_196_191 : jm_fit2 196 191 = true := by decide +kernel
theorem jf_196_197 : jm_fit2 196 197 = true := by decide +kernel
theorem jf_197_178 : jm_fit2 197 178 = true := by decide +kernel
theorem jf_197_187 : jm_fit2 197 187 = true := by decide +kernel
theorem jf_198_178 : jm_fit2 198 178 = true := by decide +kernel
theorem jf_198_194 : jm_fit2 198 194 = true := by decide +kernel
theorem jf_198_196 : jm_fit2 198 196 = true := by decide +kernel
theorem jf_199_178 : jm_fit2 199 178 = true := by decide +kernel
theorem jf_199_187 : jm_fit2 199 187 = true := by decide +kernel
theorem jf_199_191 : jm_fit2 199 191 = true := by decide +kernel
theorem jf_199_194 : jm_fit2 199 194 = true := by decide +kernel
theorem jf_199_200 : jm_fit2 199 200 = true := by decide +kernel
theorem jf_200_178 : jm_fit2 200 178 = true := by decide +kernel
theorem jf_201_178 : jm_fit2 201 178 = true := by decide +kernel
theorem jf_201_184 : jm_fit2 201 184 = true := by decide +kernel
theorem jf_201_187 : jm_fit2 201 187 = true := by decide +kernel
theorem jf_201_194 : jm_fit2 201 194 = true := by decide +kernel
theorem jf_201_200 : jm_fit2 201 200 = true := by decide +kernel
theorem jf_201_202 : jm_fit2 201 202 = true := by decide +kernel
theorem jf_202_184 : jm_fit2 202 184 = true := by decide +kernel
theorem jf_202_187 : jm_fit2 202 187 = true := by decide +kernel
theorem jf_203_178 : jm_fit2 203 178 = true := by decide +kernel
theorem jf_203_187 : jm_fit2 203 187 = true := by decide +kernel
theorem jf_203_188 : jm_fit2 203 188 = true := by decide +kernel
theorem jf_203_189 : jm_fit2 203 189 = true := by decide +kernel
theorem jf_203_194 : jm_fit2 203 194 = true := by decide +kernel
theorem jf_203_196 : jm_fit2 203 196 = true := by decide +kernel
theorem jf_203_204 : jm_fit2 203 204 = true := by decide +kernel
theorem jf_203_205 : jm_fit2 203 205 = true := by decide +kernel
theorem jf_204_184 : jm_fit2 204 184 = true := by decide +kernel
theorem jf_205_178 : jm_fit2 205 178 = true := by decide +kernel
theorem jf_205_184 : jm_fit2 205 184 = true := by decide +kernel
theorem jf_205_187 : jm_fit2 205 187 = true := by decide +kernel
theorem jf_206_188 : jm_fit2 206 188 = true := by decide +kernel
theorem jf_206_194 : jm_fit2 206 194 = true := by decide +kernel
theorem jf_206_205 : jm_fit2 206 205 = true := by decide +kernel
theorem jf_207_178 : jm_fit2 207 178 = true := by decide +kernel
theorem jf_207_187 : jm_fit2 207 187 = true := by decide +kernel
theorem jf_207_194 : jm_fit2 207 194 = true := by decide +kernel
theorem jf_207_196 : jm_fit2 207 196 = true := by decide +kernel
theorem jf_207_202 : jm_fit2 207 202 = true := by decide +kernel
theorem jf_207_208 : jm_fit2 207 208 = true := by decide +kernel
theorem jf_207_209 : jm_fit2 207 209 = true := by decide +kernel
theorem jf_209_210 : jm_fit2 209 210 = true := by decide +kernel
theorem jf_211_178 : jm_fit2 211 178 = true := by decide +kernel
theorem jf_211_189 : jm_fit2 211 189 = true := by decide +kernel
theorem jf_211_190 : jm_fit2 211 190 = true := by decide +kernel
theorem jf_211_194 : jm_fit2 211 194 = true := by decide +kernel
theorem jf_211_196 : jm_fit2 211 196 = true := by decide +kernel
theorem jf_212_209 : jm_fit2 212 209 = true := by decide +kernel
theorem jf_216_176 : jm_fit2 216 176 = true := by decide +kernel
theorem jf_216_213 : jm_fit2 216 213 = true := by decide +kernel
theorem jf_216_217 : jm_fit2 216 217 = true := by decide +kernel
theorem jf_217_192 : jm_fit2 217 192 = true := by decide +kernel
theorem jf_218_176 : jm_fit2 218 176 = true := by decide +kernel
theorem jf_218_213 : jm_fit2 218 213 = true := by decide +kernel
theorem jf_219_176 : jm_fit2 219 176 = true := by decide +kernel
theorem jf_219_192 : jm_fit2 219 192 = true := by decide +kernel
theorem jf_219_213 : jm_fit2 219 213 = true := by decide +kernel
theorem jf_219_220 : jm_fit2 219 220 = true := by decide +kernel
theorem jf_219_221 : jm_fit2 219 221 = true := by decide +kernel
theorem jf_219_222 : jm_fit2 219 222 = true := by decide +kernel
theorem jf_223_176 : jm_fit2 223 176 = true := by decide +kernel
theorem jf_223_213 : jm_fit2 223 213 = true := by decide +kernel
theorem jf_223_217 : jm_fit2 223 217 = true := by decide +kernel
theorem jf_223_221 : jm_fit2 223 221 = true := by decide +kernel
theorem jf_224_176 : jm_fit2 224 176 = true := by decide +kernel
theorem jf_224_213 : jm_fit2 224 213 = true := by decide +kernel
theorem jf_225_176 : jm_fit2 225 176 = true := by decide +kernel
theorem jf_225_213 : jm_fit2 225 213 = true := by decide +kernel
theorem jf_226_176 : jm_fit2 226 176 = true := by decide +kernel
theorem jf_226_213 : jm_fit2 226 213 = true := by decide +kernel
theorem jf_226_227 : jm_fit2 226 227 = true := by decide +kernel
theorem jf_227_228 : jm_fit2 227 228 = true := by decide +kernel
theorem jf_228_209 : jm_fit2 228 209 = true := by decide +kernel
theorem jf_229_176 : jm_fit2 229 176 = true := by decide +kernel
theorem jf_229_213 : jm_fit2 229 213 = true := by decide +kernel
theorem jf_229_230 : jm_fit2 229 230 = true := by decide +kernel
theorem jf_231_176 : jm_fit2 231 176 = true := by decide +kernel
theorem jf_231_213 : jm_fit2 231 213 = true := by decide +kernel
theorem jf_231_232 : jm_fit2 231 232 = true := by decide +kernel
theorem jf_233_176 : jm_fit2 233 176 = true := by decide +kernel
theorem jf_233_213 : jm_fit2 233 213 = true := by decide +kernel
theorem jf_233_234 : jm_fit2 233 234 = true := by decide +kernel
theorem jf_233_235 : jm_fit2 233 235 = true := by decide +kernel
theorem jf_234_192 : jm_fit2 234 192 = true := by decide +kernel
theorem jf_235_236 : jm_fit2 235 236 = true := by decide +kernel
theorem jf_235_237 : jm_fit2 235 237 = true := by decide +kernel
theorem jf_235_238 : jm_fit2 235 238 = true := by decide +kernel
theorem jf_238_232 : jm_fit2 238 232 = true := by decide +kernel
theorem jf_238_239 : jm_fit2 238 239 = true := by decide +kernel
theorem jf_238_250 : jm_fit2 238 250 = true := by decide +kernel
theorem jf_238_251 : jm_fit2 238 251 = true := by decide +kernel
theorem jf_238_252 : jm_fit2 238 252 = true := by decide +kernel
theorem jf_238_255 : jm_fit2 238 255 = true := by decide +kernel
theorem jf_239_209 : jm_fit2 239 209 = true := by decide +kernel
theorem jf_239_240 : jm_fit2 239 240 = true := by decide +kernel
theorem jf_239_244 : jm_fit2 239 244 = true := by decide +kernel
theorem jf_240_241 : jm_fit2 240 241 = true := by decide +kernel
theorem jf_240_245 : jm_fit2 240 245 = true := by decide +kernel
theorem jf_240_247 : jm_fit2 240 247 = true := by decide +kernel
theorem jf_240_249 : jm_fit2 240 249 = true := by decide +kernel
theorem jf_241_242 : jm_fit2 241 242 = true := by decide +kernel
theorem jf_242_208 : jm_fit2 242 208 = true := by decide +kernel
theorem jf_242_209 : jm_fit2 242 209 = true := by decide +kernel
theorem jf_242_243 : jm_fit2 242 243 = true := by decide +kernel
theorem jf_242_244 : jm_fit2 242 244 = true := by decide +kernel
theorem jf_243_221 : jm_fit2 243 221 = true := by decide +kernel
theorem jf_244_221 : jm_fit2 244 221 = true := by decide +kernel
theorem jf_245_242 : jm_fit2 245 242 = true := by decide +kernel
theorem jf_245_246 : jm_fit2 245 246 = true := by decide +kernel
theorem jf_247_209 : jm_fit2 247 209 = true := by decide +kernel
theorem jf_247_242 : jm_fit2 247 242 = true := by decide +kernel
theorem jf_247_248 : jm_fit2 247 248 = true := by decide +kernel
theorem jf_248_208 : jm_fit2 248 208 = true := by decide +kernel
theorem jf_248_209 : jm_fit2 248 209 = true := by decide +kernel
theorem jf_248_243 : jm_fit2 248 243 = true := by decide +kernel
theorem jf_249_242 : jm_fit2 249 242 = true := by decide +kernel
theorem jf_250_227 : jm_fit2 250 227 = true := by decide +kernel
theorem jf_251_222 : jm_fit2 251 222 = true := by decide +kernel
theorem jf_252_221 : jm_fit2 252 221 = true := by decide +kernel
theorem jf_252_253 : jm_fit2 252 253 = true := by decide +kernel
theorem jf_253_254 : jm_fit2 253 254 = true := by decide +kernel
theorem jf_255_221 : jm_fit2 255 221 = true := by decide +kernel
theorem jf_255_246 : jm_fit2 255 246 = true := by decide +kernel
theorem jf_255_254 : jm_fit2 255 254 = true := by decide +kernel
theorem jf_255_256 : jm_fit2 255 256 = true := by decide +kernel
theorem jf_256_209 : jm_fit2 256 209 = true := by decide +kernel
theorem jf_257_176 : jm_fit2 257 176 = true := by decide +kernel
theorem jf_257_213 : jm_fit2 257 213 = true := by decide +kernel
theorem jf_257_221 : jm_fit2 257 221 = true := by decide +kernel
theorem jf_257_234 : jm_fit2 257 234 = true := by decide +kernel
theorem jf_257_235 : jm_fit2 257 235 = true := by decide +kernel
theorem jf_257_258 : jm_fit2 257 258 = true := by decide +kernel
theorem jf_259_176 : jm_fit2 259 176 = true := by decide +kernel
theorem jf_259_213 : jm_fit2 259 213 = true := by decide +kernel
theorem jf_259_234 : jm_fit2 259 234 = true := by decide +kernel
theorem jf_259_235 : jm_fit2 259 235 = true := by decide +kernel
theorem jf_259_258 : jm_fit2 259 258 = true := by decide +kernel
theorem jf_260_176 : jm_fit2 260 176 = true := by decide +kernel
theorem jf_260_213 : jm_fit2 260 213 = true := by decide +kernel
theorem jf_260_234 : jm_fit2 260 234 = true := by decide +kernel
theorem jf_260_235 : jm_fit2 260 235 = true := by decide +kernel
theorem jf_261_176 : jm_fit2 261 176 = true := by decide +kernel
theorem jf_261_213 : jm_fit2 261 213 = true := by decide +kernel
theorem jf_261_222 : jm_fit2 261 222 = true := by decide +kernel
theorem jf_261_234 : jm_fit2 261 234 = true := by decide +kernel
theorem jf_261_235 : jm_fit2 261 235 = true := by decide +kernel
theorem jf_262_176 : jm_fit2 262 176 = true := by decide +kernel
theorem jf_262_213 : jm_fit2 262 213 = true := by decide +kernel
theorem jf_262_234 : jm_fit2 262 234 = true := by decide +kernel
theorem jf_262_263 : jm_fit2 262 263 = true := by decide +kernel
theorem jf_263_236 : jm_fit2 263 236 = true := by decide +kernel
theorem jf_263_237 : jm_fit2 263 237 = true := by decide +kernel
theorem jf_263_238 : jm_fit2 263 238 = true := by decide +kernel
theorem jf_264_176 : jm_fit2 264 176 = true := by decide +kernel
theorem jf_264_213 : jm_fit2 264 213 = true := by decide +kernel
theorem jf_264_234 : jm_fit2 264 234 = true := by decide +kernel
theorem jf_264_263 : jm_fit2 264 263 = true := by decide +kernel
theorem jf_265_176 : jm_fit2 265 176 = true := by decide +kernel
theorem jf_265_213 : jm_fit2 265 213 = true := by decide +kernel
theorem jf_265_234 : jm_fit2 265 234 = true := by decide +kernel
theorem jf_265_235 : jm_fit2 265 235 = true := by decide +kernel
theorem jf_266_176 : jm_fit2 266 176 = true := by decide +kernel
theorem jf_266_213 : jm_fit2 266 213 = true := by decide +kernel
theorem jf_266_234 : jm_fit2 266 234 = true := by decide +kernel
theorem jf_266_236 : jm_fit2 266 236 = true := by decide +kernel
theorem jf_266_237 : jm_fit2 266 237 = true := by decide +kernel
theorem jf_266_238 : jm_fit2 266 238 = true := by decide +kernel
theorem jf_267_176 : jm_fit2 267 176 = true := by decide +kernel
theorem jf_267_192 : jm_fit2 267 192 = true := by decide +kernel
theorem jf_267_213 : jm_fit2 267 213 = true := by decide +kernel
theorem jf_267_220 : jm_fit2 267 220 = true := by decide +kernel
theorem jf_267_268 : jm_fit2 267 268 = true := by decide +kernel
theorem jf_267_269 : jm_fit2 267 269 = true := by decide +kernel
theorem jf_268_222 : jm_fit2 268 222 = true := by decide +kernel
theorem jf_268_236 : jm_fit2 268 236 = true := by decide +kernel
theorem jf_268_237 : jm_fit2 268 237 = true := by decide +kernel
theorem jf_268_238 : jm_fit2 268 238 = true := by decide +kernel
theorem jf_269_258 : jm_fit2 269 258 = true := by decide +kernel
theorem jf_270_176 : jm_fit2 270 176 = true := by decide +kernel
theorem jf_270_192 : jm_fit2 270 192 = true := by decide +kernel
theorem jf_270_213 : jm_fit2 270 213 = true := by decide +kernel
theorem jf_270_220 : jm_fit2 270 220 = true := by decide +kernel
theorem jf_270_268 : jm_fit2 270 268 = true := by decide +kernel
theorem jf_270_269 : jm_fit2 270 269 = true := by decide +kernel
theorem jf_271_176 : jm_fit2 271 176 = true := by decide +kernel
theorem jf_271_213 : jm_fit2 271 213 = true := by decide +kernel
theorem jf_271_236 : jm_fit2 271 236 = true := by decide +kernel
theorem jf_271_237 : jm_fit2 271 237 = true := by decide +kernel
theorem jf_271_238 : jm_fit2 271 238 = true := by decide +kernel
theorem jf_272_176 : jm_fit2 272 176 = true := by decide +kernel
theorem jf_272_213 : jm_fit2 272 213 = true := by decide +kernel
theorem jf_272_273 : jm_fit2 272 273 = true := by decide +kernel
theorem jf_273_236 : jm_fit2 273 236 = true := by decide +kernel
theorem jf_273_237 : jm_fit2 273 237 = true := by decide +kernel
theorem jf_273_238 : jm_fit2 273 238 = true := by decide +kernel
theorem jf_273_274 : jm_fit2 273 274 = true := by decide +kernel
theorem jf_274_275 : jm_fit2 274 275 = true := by decide +kernel
theorem jf_276_176 : jm_fit2 276 176 = true := by decide +kernel
theorem jf_276_213 : jm_fit2 276 213 = true := by decide +kernel
theorem jf_276_220 : jm_fit2 276 220 = true := by decide +kernel
theorem jf_276_273 : jm_fit2 276 273 = true := by decide +kernel
theorem jf_277_176 : jm_fit2 277 176 = true := by decide +kernel
theorem jf_277_213 : jm_fit2 277 213 = true := by decide +kernel
theorem jf_277_234 : jm_fit2 277 234 = true := by decide +kernel
theorem jf_277_236 : jm_fit2 277 236 = true := by decide +kernel
theorem jf_277_237 : jm_fit2 277 237 = true := by decide +kernel
theorem jf_277_238 : jm_fit2 277 238 = true := by decide +kernel
theorem jf_278_176 : jm_fit2 278 176 = true := by decide +kernel
theorem jf_278_213 : jm_fit2 278 213 = true := by decide +kernel
theorem jf_278_279 : jm_fit2 278 279 = true := by decide +kernel
theorem jf_278_280 : jm_fit2 278 280 = true := by decide +kernel
theorem jf_279_192 : jm_fit2 279 192 = true := by decide +kernel
theorem jf_280_236 : jm_fit2 280 236 = true := by decide +kernel
theorem jf_280_237 : jm_fit2 280 237 = true := by decide +kernel
theorem jf_280_238 : jm_fit2 280 238 = true := by decide +kernel
theorem jf_281_176 : jm_fit2 281 176 = true := by decide +kernel
theorem jf_281_213 : jm_fit2 281 213 = true := by decide +kernel
theorem jf_281_279 : jm_fit2 281 279 = true := by decide +kernel
theorem jf_281_280 : jm_fit2 281 280 = true := by decide +kernel
theorem jf_282_176 : jm_fit2 282 176 = true := by decide +kernel
theorem jf_282_192 : jm_fit2 282 192 = true := by decide +kernel
theorem jf_282_213 : jm_fit2 282 213 = true := by decide +kernel
theorem jf_282_236 : jm_fit2 282 236 = true := by decide +kernel
theorem jf_282_237 : jm_fit2 282 237 = true := by decide +kernel
theorem jf_282_238 : jm_fit2 282 238 = true := by decide +kernel
theorem jf_283_176 : jm_fit2 283 176 = true := by decide +kernel
theorem jf_283_213 : jm_fit2 283 213 = true := by decide +kernel
theorem jf_283_217 : jm_fit2 283 217 = true := by decide +kernel
theorem jf_283_284 : jm_fit2 283 284 = true := by decide +kernel
theorem jf_284_285 : jm_fit2 284 285 = true := by decide +kernel
theorem jf_286_176 : jm_fit2 286 176 = true := by decide +kernel
theorem jf_286_213 : jm_fit2 286 213 = true := by decide +kernel
theorem jf_287_176 : jm_fit2 287 176 = true := by decide +kernel
theorem jf_287_213 : jm_fit2 287 213 = true := by decide +kernel
theorem jf_287_288 : jm_fit2 287 288 = true := by decide +kernel
theorem jf_287_289 : jm_fit2 287 289 = true := by decide +kernel
theorem jf_289_221 : jm_fit2 289 221 = true := by decide +kernel
theorem jf_289_284 : jm_fit2 289 284 = true := by decide +kernel
theorem jf_290_176 : jm_fit2 290 176 = true := by decide +kernel
theorem jf_290_210 : jm_fit2 290 210 = true := by decide +kernel
theorem jf_290_213 : jm_fit2 290 213 = true := by decide +kernel
theorem jf_290_288 : jm_fit2 290 288 = true := by decide +kernel
theorem jf_290_289 : jm_fit2 290 289 = true := by decide +kernel
theorem jf_291_176 : jm_fit2 291 176 = true := by decide +kernel
theorem jf_291_213 : jm_fit2 291 213 = true := by decide +kernel
theorem jf_291_221 : jm_fit2 291 221 = true := by decide +kernel
theorem jf_291_248 : jm_fit2 291 248 = true := by decide +kernel
theorem jf_292_176 : jm_fit2 292 176 = true := by decide +kernel
theorem jf_292_213 : jm_fit2 292 213 = true := by decide +kernel
theorem jf_292_293 : jm_fit2 292 293 = true := by decide +kernel
theorem jf_293_212 : jm_fit2 293 212 = true := by decide +kernel
theorem jf_293_221 : jm_fit2 293 221 = true := by decide +kernel
theorem jf_293_237 : jm_fit2 293 237 = true := by decide +kernel
theorem jf_293_238 : jm_fit2 293 238 = true := by decide +kernel
theorem jf_293_258 : jm_fit2 293 258 = true := by decide +kernel
theorem jf_294_176 : jm_fit2 294 176 = true := by decide +kernel
theorem jf_294_192 : jm_fit2 294 192 = true := by decide +kernel
theorem jf_294_213 : jm_fit2 294 213 = true := by decide +kernel
theorem jf_294_232 : jm_fit2 294 232 = true := by decide +kernel
theorem jf_294_237 : jm_fit2 294 237 = true := by decide +kernel
theorem jf_294_238 : jm_fit2 294 238 = true := by decide +kernel
theorem jf_294_295 : jm_fit2 294 295 = true := by decide +kernel
theorem jf_296_192 : jm_fit2 296 192 = true := by decide +kernel
theorem jf_296_295 : jm_fit2 296 295 = true := by decide +kernel
theorem jf_296_297 : jm_fit2 296 297 = true := by decide +kernel
theorem jf_296_298 : jm_fit2 296 298 = true := by decide +kernel
theorem jf_297_176 : jm_fit2 297 176 = true := by decide +kernel
theorem jf_298_213 : jm_fit2 298 213 = true := by decide +kernel
theorem jf_299_220 : jm_fit2 299 220 = true := by decide +kernel
theorem jf_299_295 : jm_fit2 299 295 = true := by decide +kernel
theorem jf_299_297 : jm_fit2 299 297 = true := by decide +kernel
theorem jf_299_298 : jm_fit2 299 298 = true := by decide +kernel
theorem jf_299_300 : jm_fit2 299 300 = true := by decide +kernel
theorem jf_301_220 : jm_fit2 301 220 = true := by decide +kernel
theorem jf_301_253 : jm_fit2 301 253 = true := by decide +kernel
theorem jf_301_295 : jm_fit2 301 295 = true := by decide +kernel
theorem jf_301_297 : jm_fit2 301 297 = true := by decide +kernel
theorem jf_301_298 : jm_fit2 301 298 = true := by decide +kernel
theorem jf_302_217 : jm_fit2 302 217 = true := by decide +kernel
theorem jf_302_295 : jm_fit2 302 295 = true := by decide +kernel
theorem jf_302_297 : jm_fit2 302 297 = true := by decide +kernel
theorem jf_302_298 : jm_fit2 302 298 = true := by decide +kernel
theorem jf_303_192 : jm_fit2 303 192 = true := by decide +kernel
theorem jf_303_297 : jm_fit2 303 297 = true := by decide +kernel
theorem jf_303_298 : jm_fit2 303 298 = true := by decide +kernel
theorem jf_304_297 : jm_fit2 304 297 = true := by decide +kernel
theorem jf_304_298 : jm_fit2 304 298 = true := by decide +kernel
theorem jf_305_176 : jm_fit2 305 176 = true := by decide +kernel
theorem jf_305_213 : jm_fit2 305 213 = true := by decide +kernel
theorem jf_306_297 : jm_fit2 306 297 = true := by decide +kernel
theorem jf_306_298 : jm_fit2 306 298 = true := by decide +kernel
theorem jf_307_176 : jm_fit2 307 176 = true := by decide +kernel
theorem jf_307_192 : jm_fit2 307 192 = true := by decide +kernel
theorem jf_307_213 : jm_fit2 307 213 = true := by decide +kernel
theorem jf_307_230 : jm_fit2 307 230 = true := by decide +kernel
theorem jf_308_176 : jm_fit2 308 176 = true := by decide +kernel
theorem jf_308_213 : jm_fit2 308 213 = true := by decide +kernel
theorem jf_309_221 : jm_fit2 309 221 = true := by decide +kernel
theorem jf_310_192 : jm_fit2 310 192 = true := by decide +kernel
theorem jf_312_0 : jm_fit2 312 0 = true := by decide +kernel
theorem jf_312_11 : jm_fit2 312 11 = true := by decide +kernel
theorem jf_312_18 : jm_fit2 312 18 = true := by decide +kernel
theorem jf_312_63 : jm_fit2 312 63 = true := by decide +kernel
theorem jf_312_64 : jm_fit2 312 64 = true := by decide +kernel
theorem jf_312_65 : jm_fit2 312 65 = true := by decide +kernel
theorem jf_312_67 : jm_fit2 312 67 = true := by decide +kernel
theorem jf_312_68 : jm_fit2 312 68 = true := by decide +kernel
theorem jf_312_72 : jm_fit2 312 72 = true := by decide +kernel
theorem jf_312_73 : jm_fit2 312 73 = true := by decide +kernel
theorem jf_312_74 : jm_fit2 312 74 = true := by decide +kernel
theorem jf_312_75 : jm_fit2 312 75 = true := by decide +kernel
theorem jf_312_77 : jm_fit2 312 77 = true := by decide +kernel
theorem jf_312_79 : jm_fit2 312 79 = true := by decide +kernel
theorem jf_312_80 : jm_fit2 312 80 = true := by decide +kernel
theorem jf_312_104 : jm_fit2 312 104 = true := by decide +kernel
theorem jf_312_106 : jm_fit2 312 106 = true := by decide +kernel
theorem jf_312_107 : jm_fit2 312 107 = true := by decide +kernel
theorem jf_312_109 : jm_fit2 312 109 = true := by decide +kernel
theorem jf_312_111 : jm_fit2 312 111 = true := by decide +kernel
theorem jf_312_112 : jm_fit2 312 112 = true := by decide +kernel
theorem jf_312_113 : jm_fit2 312 113 = true := by decide +kernel
theorem jf_312_114 : jm_fit2 312 114 = true := by decide +kernel
theorem jf_312_115 : jm_fit2 312 115 = true := by decide +kernel
theorem jf_312_119 : jm_fit2 312 119 = true := by decide +kernel
theorem jf_312_121 : jm_fit2 312 121 = true := by decide +kernel
theorem jf_312_122 : jm_fit2 312 122 = true := by decide +kernel
theorem jf_312_128 : jm_fit2 312 128 = true := by decide +kernel
theorem jf_312_129 : jm_fit2 312 129 = true := by decide +kernel
theorem jf_312_130 : jm_fit2 312 130 = true := by decide +kernel
theorem jf_312_134 : jm_fit2 312 134 = true := by decide +kernel
theorem jf_312_135 : jm_fit2 312 135 = true := by decide +kernel
theorem jf_312_136 : jm_fit2 312 136 = true := by decide +kernel
theorem jf_312_139 : jm_fit2 312 139 = true := by decide +kernel
theorem jf_312_140 : jm_fit2 312 140 = true := by decide +kernel
theorem jf_312_142 : jm_fit2 312 142 = true := by decide +kernel
theorem jf_312_143 : jm_fit2 312 143 = true := by decide +kernel
theorem jf_312_144 : jm_fit2 312 144 = true := by decide +kernel
theorem jf_312_147 : jm_fit2 312 147 = true := by decide +kernel
theorem jf_312_152 : jm_fit2 312 152 = true := by decide +kernel
theorem jf_312_155 : jm_fit2 312 155 = true := by decide +kernel
theorem jf_312_156 : jm_fit2 312 156 = true := by decide +kernel
theorem jf_312_157 : jm_fit2 312 157 = true := by decide +kernel
theorem jf_312_158 : jm_fit2 312 158 = true := by decide +kernel
theorem jf_312_159 : jm_fit2 312 159 = true := by decide +kernel
theorem jf_312_162 : jm_fit2 312 162 = true := by decide +kernel
theorem jf_312_164 : jm_fit2 312 164 = true := by decide +kernel
theorem jf_312_165 : jm_fit2 312 165 = true := by decide +kernel
theorem jf_312_166 : jm_fit2 312 166 = true := by decide +kernel
theorem jf_312_167 : jm_fit2 312 167 = true := by decide +kernel
theorem jf_312_170 : jm_fit2 312 170 = true := by decide +kernel
theorem jf_312_172 : jm_fit2 312 172 = true := by decide +kernel
theorem jf_312_173 : jm_fit2 312 173 = true := by decide +kernel
theorem jf_312_174 : jm_fit2 312 174 = true := by decide +kernel
theorem jf_312_175 : jm_fit2 312 175 = true := by decide +kernel
theorem jf_312_214 : jm_fit2 312 214 = true := by decide +kernel
theorem jf_312_215 : jm_fit2 312 215 = true := by decide +kernel
theorem jf_312_216 : jm_fit2 312 216 = true := by decide +kernel
theorem jf_312_218 : jm_fit2 312 218 = true := by decide +kernel
theorem jf_312_219 : jm_fit2 312 219 = true := by decide +kernel
theorem jf_312_223 : jm_fit2 312 223 = true := by decide +kernel
theorem jf_312_224 : jm_fit2 312 224 = true := by decide +kernel
theorem jf_312_225 : jm_fit2 312 225 = true := by decide +kernel
theorem jf_312_226 : jm_fit2 312 226 = true := by decide +kernel
theorem jf_312_229 : jm_fit2 312 229 = true := by decide +kernel
theorem jf_312_231 : jm_fit2 312 231 = true := by decide +kernel
theorem jf_312_233 : jm_fit2 312 233 = true := by decide +kernel
theorem jf_312_257 : jm_fit2 312 257 = true := by decide +kernel
theorem jf_312_259 : jm_fit2 312 259 = true := by decide +kernel
theorem jf_312_260 : jm_fit2 312 260 = true := by decide +kernel
theorem jf_312_261 : jm_fit2 312 261 = true := by decide +kernel
theorem jf_312_262 : jm_fit2 312 262 = true := by decide +kernel
theorem jf_312_264 : jm_fit2 312 264 = true := by decide +kernel
theorem jf_312_265 : jm_fit2 312 265 = true := by decide +kernel
theorem jf_312_266 : jm_fit2 312 266 = true := by decide +kernel
theorem jf_312_267 : jm_fit2 312 267 = true := by decide +kernel
theorem jf_312_270 : jm_fit2 312 270 = true := by decide +kernel
theorem jf_312_271 : jm_fit2 312 271 = true := by decide +kernel
theorem jf_312_272 : jm_fit2 312 272 = true := by decide +kernel
theorem jf_312_276 : jm_fit2 312 276 = true := by decide +kernel
theorem jf_312_277 : jm_fit2 312 277 = true := by decide +kernel
theorem jf_312_278 : jm_fit2 312 278 = true := by decide +kernel
theorem jf_312_281 : jm_fit2 312 281 = true := by decide +kernel
theorem jf_312_282 : jm_fit2 312 282 = true := by decide +kernel
theorem jf_312_283 : jm_fit2 312 283 = true := by decide +kernel
theorem jf_312_286 : jm_fit2 312 286 = true := by decide +kernel
theorem jf_312_287 : jm_fit2 312 287 = true := by decide +kernel
theorem jf_312_290 : jm_fit2 312 290 = true := by decide +kernel
theorem jf_312_291 : jm_fit2 312 291 = true := by decide +kernel
theorem jf_312_292 : jm_fit2 312 292 = true := by decide +kernel
theorem jf_312_294 : jm_fit2 312 294 = true := by decide +kernel
theorem jf_312_296 : jm_fit2 312 296 = true := by decide +kernel
theorem jf_312_299 : jm_fit2 312 299 = true := by decide +kernel
theorem jf_312_301 : jm_fit2 312 301 = true := by decide +kernel
theorem jf_312_302 : jm_fit2 312 302 = true := by decide +kernel
theorem jf_312_303 : jm_fit2 312 303 = true := by decide +kernel
theorem jf_312_304 : jm_fit2 312 304 = true := by decide +kernel
theorem jf_312_305 : jm_fit2 312 305 = true := by decide +kernel
theorem jf_312_306 : jm_fit2 312 306 = true := by decide +kernel
theorem jf_312_307 : jm_fit2 312 307 = true := by decide +kernel
theorem jf_312_308 : jm_fit2 312 308 = true := by decide +kernel
theorem jf_312_309 : jm_fit2 312 309 = true := by decide +kernel
theorem jf_312_310 : jm_fit2 312 310 = true := by decide +kernel
theorem jf_312_311 : jm_fit2 312 311 = true := by decide +kernel
