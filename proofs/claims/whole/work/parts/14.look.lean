-- lookups
theorem fl_4_27 : ftab.lookup (4, 27) = some (4, 0) := by decide +kernel
theorem fl_6_73 : ftab.lookup (6, 73) = some (4, 0) := by decide +kernel
theorem fl_7_107 : ftab.lookup (7, 107) = some (4, 0) := by decide +kernel
theorem fl_4_31 : ftab.lookup (4, 31) = some (4, 1) := by decide +kernel
theorem fl_5_54 : ftab.lookup (5, 54) = some (4, 1) := by decide +kernel
theorem fl_7_101 : ftab.lookup (7, 101) = some (4, 1) := by decide +kernel
theorem fl_6_83 : ftab.lookup (6, 83) = some (4, 1) := by decide +kernel
theorem fl_4_34 : ftab.lookup (4, 34) = some (4, 2) := by decide +kernel
theorem fl_5_62 : ftab.lookup (5, 62) = some (4, 2) := by decide +kernel
theorem fl_1_41 : ftab.lookup (1, 41) = some (4, 2) := by decide +kernel
theorem fl_7_110 : ftab.lookup (7, 110) = some (4, 2) := by decide +kernel
theorem fl_6_92 : ftab.lookup (6, 92) = some (4, 2) := by decide +kernel
theorem fl_4_9 : ftab.lookup (4, 9) = some (4, 3) := by decide +kernel
theorem fl_6_69 : ftab.lookup (6, 69) = some (4, 3) := by decide +kernel
theorem fl_4_15 : ftab.lookup (4, 15) = some (4, 4) := by decide +kernel
theorem fl_6_86 : ftab.lookup (6, 86) = some (4, 4) := by decide +kernel
theorem fl_7_152 : ftab.lookup (7, 152) = some (4, 4) := by decide +kernel
theorem fl_5_99 : ftab.lookup (5, 99) = some (4, 4) := by decide +kernel
theorem fl_4_18 : ftab.lookup (4, 18) = some (4, 5) := by decide +kernel
theorem fl_5_59 : ftab.lookup (5, 59) = some (4, 5) := by decide +kernel
theorem fl_6_89 : ftab.lookup (6, 89) = some (4, 5) := by decide +kernel
theorem fl_4_21 : ftab.lookup (4, 21) = some (4, 6) := by decide +kernel
theorem fl_6_95 : ftab.lookup (6, 95) = some (4, 6) := by decide +kernel
theorem fl_7_175 : ftab.lookup (7, 175) = some (4, 6) := by decide +kernel
theorem fl_5_102 : ftab.lookup (5, 102) = some (4, 6) := by decide +kernel
theorem fl_4_24 : ftab.lookup (4, 24) = some (4, 7) := by decide +kernel
theorem fl_6_98 : ftab.lookup (6, 98) = some (4, 7) := by decide +kernel
theorem fl_7_178 : ftab.lookup (7, 178) = some (4, 7) := by decide +kernel
theorem fl_5_112 : ftab.lookup (5, 112) = some (4, 7) := by decide +kernel
theorem fl_6_9 : ftab.lookup (6, 9) = some (6, 0) := by decide +kernel
theorem fl_6_15 : ftab.lookup (6, 15) = some (6, 1) := by decide +kernel
theorem fl_7_76 : ftab.lookup (7, 76) = some (6, 1) := by decide +kernel
theorem fl_6_19 : ftab.lookup (6, 19) = some (6, 2) := by decide +kernel
theorem fl_7_104 : ftab.lookup (7, 104) = some (6, 2) := by decide +kernel
theorem fl_6_22 : ftab.lookup (6, 22) = some (6, 3) := by decide +kernel
theorem fl_6_25 : ftab.lookup (6, 25) = some (6, 4) := by decide +kernel
theorem fl_6_28 : ftab.lookup (6, 28) = some (6, 5) := by decide +kernel
theorem fl_5_31 : ftab.lookup (5, 31) = some (5, 0) := by decide +kernel
theorem fl_1_35 : ftab.lookup (1, 35) = some (5, 0) := by decide +kernel
theorem fl_7_84 : ftab.lookup (7, 84) = some (5, 0) := by decide +kernel
theorem fl_5_35 : ftab.lookup (5, 35) = some (5, 1) := by decide +kernel
theorem fl_7_113 : ftab.lookup (7, 113) = some (5, 1) := by decide +kernel
theorem fl_5_39 : ftab.lookup (5, 39) = some (5, 2) := by decide +kernel
theorem fl_7_116 : ftab.lookup (7, 116) = some (5, 2) := by decide +kernel
theorem fl_5_42 : ftab.lookup (5, 42) = some (5, 3) := by decide +kernel
theorem fl_7_119 : ftab.lookup (7, 119) = some (5, 3) := by decide +kernel
theorem fl_5_45 : ftab.lookup (5, 45) = some (5, 4) := by decide +kernel
theorem fl_7_144 : ftab.lookup (7, 144) = some (5, 4) := by decide +kernel
theorem fl_5_48 : ftab.lookup (5, 48) = some (5, 5) := by decide +kernel
theorem fl_5_51 : ftab.lookup (5, 51) = some (5, 6) := by decide +kernel
theorem fl_7_129 : ftab.lookup (7, 129) = some (5, 6) := by decide +kernel
theorem fl_5_9 : ftab.lookup (5, 9) = some (5, 7) := by decide +kernel
theorem fl_0_22 : ftab.lookup (0, 22) = some (5, 7) := by decide +kernel
theorem fl_7_156 : ftab.lookup (7, 156) = some (5, 7) := by decide +kernel
theorem fl_5_15 : ftab.lookup (5, 15) = some (5, 8) := by decide +kernel
theorem fl_1_58 : ftab.lookup (1, 58) = some (5, 8) := by decide +kernel
theorem fl_7_163 : ftab.lookup (7, 163) = some (5, 8) := by decide +kernel
theorem fl_5_18 : ftab.lookup (5, 18) = some (5, 9) := by decide +kernel
theorem fl_7_166 : ftab.lookup (7, 166) = some (5, 9) := by decide +kernel
theorem fl_5_21 : ftab.lookup (5, 21) = some (5, 10) := by decide +kernel
theorem fl_7_169 : ftab.lookup (7, 169) = some (5, 10) := by decide +kernel
theorem fl_5_24 : ftab.lookup (5, 24) = some (5, 11) := by decide +kernel
theorem fl_3_11 : ftab.lookup (3, 11) = some (3, 0) := by decide +kernel
theorem fl_3_17 : ftab.lookup (3, 17) = some (3, 1) := by decide +kernel
theorem fl_3_21 : ftab.lookup (3, 21) = some (3, 2) := by decide +kernel
theorem fl_7_147 : ftab.lookup (7, 147) = some (3, 2) := by decide +kernel
theorem fl_2_22 : ftab.lookup (2, 22) = some (2, 0) := by decide +kernel
theorem fl_7_309 : ftab.lookup (7, 309) = some (2, 0) := by decide +kernel
theorem fl_2_7 : ftab.lookup (2, 7) = some (2, 1) := by decide +kernel
theorem fl_7_312 : ftab.lookup (7, 312) = some (2, 1) := by decide +kernel
theorem fl_2_13 : ftab.lookup (2, 13) = some (2, 2) := by decide +kernel
theorem fl_7_93 : ftab.lookup (7, 93) = some (2, 2) := by decide +kernel
theorem fl_1_9 : ftab.lookup (1, 9) = some (1, 0) := by decide +kernel
theorem fl_1_15 : ftab.lookup (1, 15) = some (1, 1) := by decide +kernel
theorem fl_1_18 : ftab.lookup (1, 18) = some (1, 2) := by decide +kernel
theorem fl_1_22 : ftab.lookup (1, 22) = some (1, 3) := by decide +kernel
theorem fl_7_97 : ftab.lookup (7, 97) = some (1, 3) := by decide +kernel
theorem fl_1_26 : ftab.lookup (1, 26) = some (1, 4) := by decide +kernel
theorem fl_7_295 : ftab.lookup (7, 295) = some (1, 4) := by decide +kernel
theorem fl_1_29 : ftab.lookup (1, 29) = some (1, 5) := by decide +kernel
theorem fl_7_292 : ftab.lookup (7, 292) = some (1, 5) := by decide +kernel
theorem fl_1_32 : ftab.lookup (1, 32) = some (1, 6) := by decide +kernel
theorem fl_0_9 : ftab.lookup (0, 9) = some (0, 0) := by decide +kernel
theorem fl_0_15 : ftab.lookup (0, 15) = some (0, 1) := by decide +kernel
theorem fl_0_18 : ftab.lookup (0, 18) = some (0, 2) := by decide +kernel
theorem fl_7_100 : ftab.lookup (7, 100) = some (0, 2) := by decide +kernel
theorem fl_7_21 : ftab.lookup (7, 21) = some (7, 0) := by decide +kernel
theorem fl_7_10 : ftab.lookup (7, 10) = some (7, 1) := by decide +kernel
theorem fl_7_28 : ftab.lookup (7, 28) = some (7, 2) := by decide +kernel
theorem fl_7_32 : ftab.lookup (7, 32) = some (7, 3) := by decide +kernel
theorem fl_7_38 : ftab.lookup (7, 38) = some (7, 4) := by decide +kernel
theorem fl_7_44 : ftab.lookup (7, 44) = some (7, 5) := by decide +kernel
theorem fl_7_52 : ftab.lookup (7, 52) = some (7, 6) := by decide +kernel
theorem fl_7_59 : ftab.lookup (7, 59) = some (7, 7) := by decide +kernel
theorem fl_7_63 : ftab.lookup (7, 63) = some (7, 8) := by decide +kernel
theorem fl_8_7 : ftab.lookup (8, 7) = some (8, 0) := by decide +kernel
theorem fl_8_86 : ftab.lookup (8, 86) = some (8, 1) := by decide +kernel
theorem fl_8_13 : ftab.lookup (8, 13) = some (8, 2) := by decide +kernel
theorem fl_8_17 : ftab.lookup (8, 17) = some (8, 3) := by decide +kernel
theorem fl_8_20 : ftab.lookup (8, 20) = some (8, 4) := by decide +kernel
theorem fl_8_23 : ftab.lookup (8, 23) = some (8, 5) := by decide +kernel
theorem fl_8_26 : ftab.lookup (8, 26) = some (8, 6) := by decide +kernel
theorem fl_8_29 : ftab.lookup (8, 29) = some (8, 7) := by decide +kernel
theorem fl_8_32 : ftab.lookup (8, 32) = some (8, 8) := by decide +kernel
theorem fl_8_35 : ftab.lookup (8, 35) = some (8, 9) := by decide +kernel
theorem fl_8_38 : ftab.lookup (8, 38) = some (8, 10) := by decide +kernel
theorem fl_8_41 : ftab.lookup (8, 41) = some (8, 11) := by decide +kernel
theorem fl_8_44 : ftab.lookup (8, 44) = some (8, 12) := by decide +kernel
theorem fl_8_47 : ftab.lookup (8, 47) = some (8, 13) := by decide +kernel
theorem fl_8_50 : ftab.lookup (8, 50) = some (8, 14) := by decide +kernel
theorem fl_8_53 : ftab.lookup (8, 53) = some (8, 15) := by decide +kernel
theorem fl_8_56 : ftab.lookup (8, 56) = some (8, 16) := by decide +kernel
theorem fl_8_59 : ftab.lookup (8, 59) = some (8, 17) := by decide +kernel
theorem fl_8_129 : ftab.lookup (8, 129) = some (8, 18) := by decide +kernel
theorem fl_8_62 : ftab.lookup (8, 62) = some (8, 19) := by decide +kernel
theorem fl_8_65 : ftab.lookup (8, 65) = some (8, 20) := by decide +kernel
theorem fl_8_68 : ftab.lookup (8, 68) = some (8, 21) := by decide +kernel
theorem fl_8_219 : ftab.lookup (8, 219) = some (8, 22) := by decide +kernel
theorem fl_8_72 : ftab.lookup (8, 72) = some (8, 23) := by decide +kernel
theorem fl_8_132 : ftab.lookup (8, 132) = some (8, 24) := by decide +kernel
theorem fl_8_75 : ftab.lookup (8, 75) = some (8, 25) := by decide +kernel
theorem fl_8_135 : ftab.lookup (8, 135) = some (8, 26) := by decide +kernel
theorem fl_8_90 : ftab.lookup (8, 90) = some (8, 27) := by decide +kernel
theorem fl_8_93 : ftab.lookup (8, 93) = some (8, 28) := by decide +kernel
theorem fl_8_235 : ftab.lookup (8, 235) = some (8, 29) := by decide +kernel
theorem fl_8_238 : ftab.lookup (8, 238) = some (8, 30) := by decide +kernel
theorem fl_8_241 : ftab.lookup (8, 241) = some (8, 31) := by decide +kernel
theorem fl_8_244 : ftab.lookup (8, 244) = some (8, 32) := by decide +kernel
theorem fl_8_78 : ftab.lookup (8, 78) = some (8, 33) := by decide +kernel
theorem fl_8_263 : ftab.lookup (8, 263) = some (8, 34) := by decide +kernel
theorem cl_7_1 : ctab.lookup (7, 1) = some (5, 0) := by decide +kernel
theorem cl_7_9 : ctab.lookup (7, 9) = some (3, 1) := by decide +kernel
theorem cl_7_18 : ctab.lookup (7, 18) = some (1, 2) := by decide +kernel
theorem cl_7_27 : ctab.lookup (7, 27) = some (1, 3) := by decide +kernel
theorem cl_7_37 : ctab.lookup (7, 37) = some (1, 5) := by decide +kernel
theorem cl_7_48 : ctab.lookup (7, 48) = some (1, 6) := by decide +kernel
theorem cl_7_51 : ctab.lookup (7, 51) = some (3, 7) := by decide +kernel
theorem cl_7_58 : ctab.lookup (7, 58) = some (3, 8) := by decide +kernel
theorem cl_4_3 : ctab.lookup (4, 3) = some (5, 0) := by decide +kernel
theorem cl_6_3 : ctab.lookup (6, 3) = some (5, 0) := by decide +kernel
theorem cl_5_3 : ctab.lookup (5, 3) = some (5, 0) := by decide +kernel
theorem cl_5_27 : ctab.lookup (5, 27) = some (0, 4) := by decide +kernel
theorem cl_3_3 : ctab.lookup (3, 3) = some (5, 0) := by decide +kernel
theorem cl_3_24 : ctab.lookup (3, 24) = some (1, 3) := by decide +kernel
theorem cl_2_1 : ctab.lookup (2, 1) = some (5, 0) := by decide +kernel
theorem cl_2_19 : ctab.lookup (2, 19) = some (1, 3) := by decide +kernel
theorem cl_1_3 : ctab.lookup (1, 3) = some (5, 0) := by decide +kernel
theorem cl_0_3 : ctab.lookup (0, 3) = some (5, 0) := by decide +kernel
theorem cl_7_67 : ctab.lookup (7, 67) = some (2, 10) := by decide +kernel
theorem cl_7_72 : ctab.lookup (7, 72) = some (0, 11) := by decide +kernel
theorem cl_7_80 : ctab.lookup (7, 80) = some (0, 13) := by decide +kernel
theorem cl_7_87 : ctab.lookup (7, 87) = some (0, 4) := by decide +kernel
theorem cl_7_90 : ctab.lookup (7, 90) = some (0, 27) := by decide +kernel
theorem cl_6_32 : ctab.lookup (6, 32) = some (0, 14) := by decide +kernel
theorem cl_6_37 : ctab.lookup (6, 37) = some (0, 15) := by decide +kernel
theorem cl_6_40 : ctab.lookup (6, 40) = some (0, 16) := by decide +kernel
theorem cl_6_43 : ctab.lookup (6, 43) = some (0, 17) := by decide +kernel
theorem cl_6_47 : ctab.lookup (6, 47) = some (0, 18) := by decide +kernel
theorem cl_6_51 : ctab.lookup (6, 51) = some (0, 19) := by decide +kernel
theorem cl_6_55 : ctab.lookup (6, 55) = some (0, 25) := by decide +kernel
theorem cl_6_58 : ctab.lookup (6, 58) = some (0, 26) := by decide +kernel
theorem cl_6_61 : ctab.lookup (6, 61) = some (0, 20) := by decide +kernel
theorem cl_6_65 : ctab.lookup (6, 65) = some (0, 21) := by decide +kernel
theorem cl_6_76 : ctab.lookup (6, 76) = some (0, 23) := by decide +kernel
theorem cl_6_80 : ctab.lookup (6, 80) = some (0, 24) := by decide +kernel
theorem cl_6_101 : ctab.lookup (6, 101) = some (2, 22) := by decide +kernel
theorem cl_6_104 : ctab.lookup (6, 104) = some (4, 10) := by decide +kernel
theorem cl_7_122 : ctab.lookup (7, 122) = some (0, 30) := by decide +kernel
theorem cl_7_126 : ctab.lookup (7, 126) = some (0, 32) := by decide +kernel
theorem cl_7_132 : ctab.lookup (7, 132) = some (0, 33) := by decide +kernel
theorem cl_7_135 : ctab.lookup (7, 135) = some (0, 37) := by decide +kernel
theorem cl_7_138 : ctab.lookup (7, 138) = some (0, 38) := by decide +kernel
theorem cl_7_141 : ctab.lookup (7, 141) = some (0, 39) := by decide +kernel
theorem cl_5_125 : ctab.lookup (5, 125) = some (0, 31) := by decide +kernel
theorem cl_5_95 : ctab.lookup (5, 95) = some (0, 34) := by decide +kernel
theorem cl_5_122 : ctab.lookup (5, 122) = some (0, 35) := by decide +kernel
theorem cl_5_118 : ctab.lookup (5, 118) = some (4, 36) := by decide +kernel
theorem cl_5_128 : ctab.lookup (5, 128) = some (0, 39) := by decide +kernel
theorem cl_5_89 : ctab.lookup (5, 89) = some (7, 0) := by decide +kernel
theorem cl_7_148 : ctab.lookup (7, 148) = some (0, 41) := by decide +kernel
theorem cl_7_159 : ctab.lookup (7, 159) = some (0, 42) := by decide +kernel
theorem cl_7_172 : ctab.lookup (7, 172) = some (0, 44) := by decide +kernel
theorem cl_7_181 : ctab.lookup (7, 181) = some (0, 45) := by decide +kernel
theorem cl_7_184 : ctab.lookup (7, 184) = some (0, 18) := by decide +kernel
theorem cl_7_188 : ctab.lookup (7, 188) = some (0, 47) := by decide +kernel
theorem cl_7_192 : ctab.lookup (7, 192) = some (0, 49) := by decide +kernel
theorem cl_7_196 : ctab.lookup (7, 196) = some (0, 51) := by decide +kernel
theorem cl_7_199 : ctab.lookup (7, 199) = some (0, 52) := by decide +kernel
theorem cl_7_203 : ctab.lookup (7, 203) = some (0, 54) := by decide +kernel
theorem cl_3_27 : ctab.lookup (3, 27) = some (0, 53) := by decide +kernel
theorem cl_3_31 : ctab.lookup (3, 31) = some (7, 0) := by decide +kernel
theorem cl_5_65 : ctab.lookup (5, 65) = some (6, 0) := by decide +kernel
theorem cl_5_74 : ctab.lookup (5, 74) = some (0, 47) := by decide +kernel
theorem cl_5_78 : ctab.lookup (5, 78) = some (0, 55) := by decide +kernel
theorem cl_5_82 : ctab.lookup (5, 82) = some (0, 56) := by decide +kernel
theorem cl_5_86 : ctab.lookup (5, 86) = some (0, 57) := by decide +kernel
theorem cl_5_105 : ctab.lookup (5, 105) = some (0, 58) := by decide +kernel
theorem cl_5_109 : ctab.lookup (5, 109) = some (0, 59) := by decide +kernel
theorem cl_5_115 : ctab.lookup (5, 115) = some (0, 60) := by decide +kernel
theorem cl_7_206 : ctab.lookup (7, 206) = some (0, 62) := by decide +kernel
theorem cl_7_210 : ctab.lookup (7, 210) = some (0, 63) := by decide +kernel
theorem cl_7_214 : ctab.lookup (7, 214) = some (0, 65) := by decide +kernel
theorem cl_7_217 : ctab.lookup (7, 217) = some (0, 66) := by decide +kernel
theorem cl_7_220 : ctab.lookup (7, 220) = some (0, 35) := by decide +kernel
theorem cl_7_223 : ctab.lookup (7, 223) = some (0, 60) := by decide +kernel
theorem cl_7_227 : ctab.lookup (7, 227) = some (0, 55) := by decide +kernel
theorem cl_7_230 : ctab.lookup (7, 230) = some (0, 70) := by decide +kernel
theorem cl_7_233 : ctab.lookup (7, 233) = some (0, 71) := by decide +kernel
theorem cl_7_236 : ctab.lookup (7, 236) = some (0, 73) := by decide +kernel
theorem cl_7_322 : ctab.lookup (7, 322) = some (0, 74) := by decide +kernel
theorem cl_7_239 : ctab.lookup (7, 239) = some (0, 76) := by decide +kernel
theorem cl_7_243 : ctab.lookup (7, 243) = some (0, 78) := by decide +kernel
theorem cl_7_246 : ctab.lookup (7, 246) = some (0, 53) := by decide +kernel
theorem cl_7_325 : ctab.lookup (7, 325) = some (0, 79) := by decide +kernel
theorem cl_5_71 : ctab.lookup (5, 71) = some (0, 54) := by decide +kernel
theorem cl_7_249 : ctab.lookup (7, 249) = some (0, 56) := by decide +kernel
theorem cl_7_252 : ctab.lookup (7, 252) = some (0, 81) := by decide +kernel
theorem cl_7_255 : ctab.lookup (7, 255) = some (0, 82) := by decide +kernel
theorem cl_7_328 : ctab.lookup (7, 328) = some (2, 36) := by decide +kernel
theorem cl_7_258 : ctab.lookup (7, 258) = some (0, 31) := by decide +kernel
theorem cl_7_261 : ctab.lookup (7, 261) = some (0, 86) := by decide +kernel
theorem cl_7_264 : ctab.lookup (7, 264) = some (2, 88) := by decide +kernel
theorem cl_7_269 : ctab.lookup (7, 269) = some (0, 89) := by decide +kernel
theorem cl_7_272 : ctab.lookup (7, 272) = some (0, 91) := by decide +kernel
theorem cl_7_276 : ctab.lookup (7, 276) = some (7, 0) := by decide +kernel
theorem cl_7_285 : ctab.lookup (7, 285) = some (0, 96) := by decide +kernel
theorem cl_7_289 : ctab.lookup (7, 289) = some (0, 98) := by decide +kernel
theorem cl_1_46 : ctab.lookup (1, 46) = some (0, 45) := by decide +kernel
theorem cl_1_50 : ctab.lookup (1, 50) = some (0, 99) := by decide +kernel
theorem cl_1_54 : ctab.lookup (1, 54) = some (2, 100) := by decide +kernel
theorem cl_7_298 : ctab.lookup (7, 298) = some (0, 102) := by decide +kernel
theorem cl_1_61 : ctab.lookup (1, 61) = some (8, 0) := by decide +kernel
theorem cl_7_302 : ctab.lookup (7, 302) = some (0, 104) := by decide +kernel
theorem cl_7_305 : ctab.lookup (7, 305) = some (0, 106) := by decide +kernel
theorem cl_8_1 : ctab.lookup (8, 1) = some (5, 0) := by decide +kernel
theorem cl_8_81 : ctab.lookup (8, 81) = some (2, 113) := by decide +kernel
theorem cl_8_100 : ctab.lookup (8, 100) = some (0, 115) := by decide +kernel
theorem cl_8_123 : ctab.lookup (8, 123) = some (0, 117) := by decide +kernel
theorem cl_8_126 : ctab.lookup (8, 126) = some (0, 124) := by decide +kernel
theorem cl_8_96 : ctab.lookup (8, 96) = some (0, 116) := by decide +kernel
theorem cl_8_114 : ctab.lookup (8, 114) = some (0, 118) := by decide +kernel
theorem cl_8_103 : ctab.lookup (8, 103) = some (0, 119) := by decide +kernel
theorem cl_8_117 : ctab.lookup (8, 117) = some (0, 122) := by decide +kernel
theorem cl_8_120 : ctab.lookup (8, 120) = some (0, 123) := by decide +kernel
theorem cl_8_107 : ctab.lookup (8, 107) = some (0, 120) := by decide +kernel
theorem cl_8_111 : ctab.lookup (8, 111) = some (0, 121) := by decide +kernel
theorem cl_8_152 : ctab.lookup (8, 152) = some (0, 127) := by decide +kernel
theorem cl_8_155 : ctab.lookup (8, 155) = some (0, 128) := by decide +kernel
theorem cl_8_158 : ctab.lookup (8, 158) = some (0, 131) := by decide +kernel
theorem cl_8_161 : ctab.lookup (8, 161) = some (0, 133) := by decide +kernel
theorem cl_8_149 : ctab.lookup (8, 149) = some (0, 134) := by decide +kernel
theorem cl_8_138 : ctab.lookup (8, 138) = some (0, 129) := by decide +kernel
theorem cl_8_142 : ctab.lookup (8, 142) = some (0, 130) := by decide +kernel
theorem cl_8_146 : ctab.lookup (8, 146) = some (0, 132) := by decide +kernel
theorem cl_8_164 : ctab.lookup (8, 164) = some (0, 136) := by decide +kernel
theorem cl_8_168 : ctab.lookup (8, 168) = some (0, 138) := by decide +kernel
theorem cl_8_171 : ctab.lookup (8, 171) = some (0, 140) := by decide +kernel
theorem cl_8_194 : ctab.lookup (8, 194) = some (0, 143) := by decide +kernel
theorem cl_8_197 : ctab.lookup (8, 197) = some (0, 145) := by decide +kernel
theorem cl_8_190 : ctab.lookup (8, 190) = some (2, 144) := by decide +kernel
theorem cl_8_176 : ctab.lookup (8, 176) = some (2, 146) := by decide +kernel
theorem cl_8_187 : ctab.lookup (8, 187) = some (0, 147) := by decide +kernel
theorem cl_8_179 : ctab.lookup (8, 179) = some (2, 148) := by decide +kernel
theorem cl_8_183 : ctab.lookup (8, 183) = some (2, 149) := by decide +kernel
theorem cl_8_201 : ctab.lookup (8, 201) = some (0, 151) := by decide +kernel
theorem cl_8_205 : ctab.lookup (8, 205) = some (0, 152) := by decide +kernel
theorem cl_8_209 : ctab.lookup (8, 209) = some (0, 154) := by decide +kernel
theorem cl_8_212 : ctab.lookup (8, 212) = some (2, 158) := by decide +kernel
theorem cl_8_216 : ctab.lookup (8, 216) = some (2, 159) := by decide +kernel
theorem cl_8_232 : ctab.lookup (8, 232) = some (0, 161) := by decide +kernel
theorem cl_8_229 : ctab.lookup (8, 229) = some (0, 162) := by decide +kernel
theorem cl_8_250 : ctab.lookup (8, 250) = some (0, 165) := by decide +kernel
theorem cl_8_247 : ctab.lookup (8, 247) = some (2, 166) := by decide +kernel
theorem cl_8_253 : ctab.lookup (8, 253) = some (2, 172) := by decide +kernel
theorem cl_8_269 : ctab.lookup (8, 269) = some (0, 179) := by decide +kernel
theorem cl_8_266 : ctab.lookup (8, 266) = some (0, 180) := by decide +kernel
theorem cl_8_260 : ctab.lookup (8, 260) = some (0, 181) := by decide +kernel
theorem cl_8_275 : ctab.lookup (8, 275) = some (0, 183) := by decide +kernel
theorem cl_8_272 : ctab.lookup (8, 272) = some (0, 184) := by decide +kernel
theorem kl_7_71 : ktab.lookup (7, 71) = some (-1000000002) := by decide +kernel
theorem kl_7_79 : ktab.lookup (7, 79) = some (-1000000004) := by decide +kernel
theorem kl_7_151 : ktab.lookup (7, 151) = some (-1000000001) := by decide +kernel
theorem kl_7_191 : ktab.lookup (7, 191) = some (-1000000003) := by decide +kernel
theorem kl_7_321 : ktab.lookup (7, 321) = some (65536) := by decide +kernel
theorem kl_9_265 : ktab.lookup (9, 265) = some (1431655765) := by decide +kernel
theorem kl_9_266 : ktab.lookup (9, 266) = some (858993459) := by decide +kernel
theorem kl_9_267 : ktab.lookup (9, 267) = some (252645135) := by decide +kernel
theorem kl_8_85 : ktab.lookup (8, 85) = some (-1000000002) := by decide +kernel
theorem kl_8_89 : ktab.lookup (8, 89) = some (-1000000004) := by decide +kernel
theorem kl_8_167 : ktab.lookup (8, 167) = some (-1000000001) := by decide +kernel
theorem kl_8_175 : ktab.lookup (8, 175) = some (-1000000003) := by decide +kernel
theorem kl_8_228 : ktab.lookup (8, 228) = some (65536) := by decide +kernel
theorem kl_7_315 : ktabL.lookup (7, 315) = some (1103515245) := by decide +kernel
theorem kl_7_317 : ktabL.lookup (7, 317) = some (12345) := by decide +kernel
theorem kl_7_319 : ktabL.lookup (7, 319) = some (2147483647) := by decide +kernel
theorem kl_7_281 : ktabL.lookup (7, 281) = some (1000000000) := by decide +kernel
theorem kl_7_283 : ktabL.lookup (7, 283) = some (100) := by decide +kernel
theorem kl_8_222 : ktabL.lookup (8, 222) = some (1103515245) := by decide +kernel
theorem kl_8_224 : ktabL.lookup (8, 224) = some (12345) := by decide +kernel
theorem kl_8_226 : ktabL.lookup (8, 226) = some (2147483648) := by decide +kernel
theorem kl_8_256 : ktabL.lookup (8, 256) = some (1000000000) := by decide +kernel
theorem kl_8_258 : ktabL.lookup (8, 258) = some (100) := by decide +kernel
theorem cnt_0 : cnt 0 = 1 := by decide
theorem cnt_1 : cnt 1 = 1 := by decide
theorem cnt_2 : cnt 2 = 1 := by decide
theorem aT_2 : aT 2 = 2 := by decide
theorem aN_2 : aN 2 = 240 := by decide
theorem cnt_3 : cnt 3 = 2 := by decide
theorem cnt_4 : cnt 4 = 2 := by decide
theorem aT_4 : aT 4 = 0 := by decide
theorem aN_4 : aN 4 = 12 := by decide
theorem cnt_5 : cnt 5 = 2 := by decide
theorem aT_5 : aT 5 = 0 := by decide
theorem aN_5 : aN 5 = 7 := by decide
theorem cnt_6 : cnt 6 = 2 := by decide
theorem aT_6 : aT 6 = 0 := by decide
theorem aN_6 : aN 6 = 7 := by decide
theorem cnt_7 : cnt 7 = 2 := by decide
theorem aT_7 : aT 7 = 0 := by decide
theorem aN_7 : aN 7 = 7 := by decide
theorem cnt_8 : cnt 8 = 2 := by decide
theorem aT_8 : aT 8 = 0 := by decide
theorem aN_8 : aN 8 = 7 := by decide
theorem cnt_9 : cnt 9 = 34 := by decide
theorem cnt_10 : cnt 10 = 34 := by decide
theorem aT_10 : aT 10 = 0 := by decide
theorem aN_10 : aN 10 = 7 := by decide
theorem cnt_11 : cnt 11 = 34 := by decide
theorem aT_11 : aT 11 = 0 := by decide
theorem aN_11 : aN 11 = 7 := by decide
theorem cnt_12 : cnt 12 = 34 := by decide
theorem aT_12 : aT 12 = 0 := by decide
theorem aN_12 : aN 12 = 7 := by decide
theorem cnt_13 : cnt 13 = 34 := by decide
theorem aT_13 : aT 13 = 0 := by decide
theorem aN_13 : aN 13 = 7 := by decide
theorem cnt_14 : cnt 14 = 0 := by decide
theorem aT_14 : aT 14 = 0 := by decide
theorem aN_14 : aN 14 = 7 := by decide
theorem cnt_15 : cnt 15 = 34 := by decide
theorem aT_15 : aT 15 = 0 := by decide
theorem aN_15 : aN 15 = 60 := by decide
theorem cnt_16 : cnt 16 = 1 := by decide
theorem cnt_17 : cnt 17 = 1 := by decide
theorem cnt_18 : cnt 18 = 1 := by decide
theorem cnt_19 : cnt 19 = 2 := by decide
theorem cnt_20 : cnt 20 = 1 := by decide
theorem cnt_21 : cnt 21 = 1 := by decide
theorem aT_21 : aT 21 = 0 := by decide
theorem aN_21 : aN 21 = 6 := by decide
theorem cnt_22 : cnt 22 = 1 := by decide
theorem aT_22 : aT 22 = 0 := by decide
theorem aN_22 : aN 22 = 6 := by decide
theorem cnt_23 : cnt 23 = 1 := by decide
theorem aT_23 : aT 23 = 1 := by decide
theorem aN_23 : aN 23 = 6 := by decide
theorem cnt_24 : cnt 24 = 1 := by decide
theorem aT_24 : aT 24 = 0 := by decide
theorem aN_24 : aN 24 = 22 := by decide
theorem cnt_25 : cnt 25 = 1 := by decide
theorem aT_25 : aT 25 = 0 := by decide
theorem aN_25 : aN 25 = 8 := by decide
theorem cnt_26 : cnt 26 = 1 := by decide
theorem cnt_27 : cnt 27 = 1 := by decide
theorem aT_27 : aT 27 = 0 := by decide
theorem aN_27 : aN 27 = 20 := by decide
theorem cnt_28 : cnt 28 = 1 := by decide
theorem aT_28 : aT 28 = 0 := by decide
theorem aN_28 : aN 28 = 20 := by decide
theorem cnt_29 : cnt 29 = 1 := by decide
theorem cnt_30 : cnt 30 = 1 := by decide
theorem aT_30 : aT 30 = 0 := by decide
theorem aN_30 : aN 30 = 240 := by decide
theorem cnt_31 : cnt 31 = 1 := by decide
theorem aT_31 : aT 31 = 0 := by decide
theorem aN_31 : aN 31 = 3 := by decide
theorem cnt_32 : cnt 32 = 1 := by decide
theorem aT_32 : aT 32 = 0 := by decide
theorem aN_32 : aN 32 = 12 := by decide
theorem cnt_33 : cnt 33 = 1 := by decide
theorem aT_33 : aT 33 = 0 := by decide
theorem aN_33 : aN 33 = 7 := by decide
theorem cnt_34 : cnt 34 = 1 := by decide
theorem aT_34 : aT 34 = 0 := by decide
theorem aN_34 : aN 34 = 7 := by decide
theorem cnt_35 : cnt 35 = 1 := by decide
theorem aT_35 : aT 35 = 0 := by decide
theorem aN_35 : aN 35 = 7 := by decide
theorem cnt_36 : cnt 36 = 1 := by decide
theorem aT_36 : aT 36 = 0 := by decide
theorem aN_36 : aN 36 = 7 := by decide
theorem cnt_37 : cnt 37 = 1 := by decide
theorem aT_37 : aT 37 = 0 := by decide
theorem aN_37 : aN 37 = 3 := by decide
theorem cnt_38 : cnt 38 = 1 := by decide
theorem aT_38 : aT 38 = 0 := by decide
theorem aN_38 : aN 38 = 12 := by decide
theorem cnt_39 : cnt 39 = 1 := by decide
theorem aT_39 : aT 39 = 0 := by decide
theorem aN_39 : aN 39 = 7 := by decide
theorem cnt_40 : cnt 40 = 1 := by decide
theorem aT_40 : aT 40 = 0 := by decide
theorem aN_40 : aN 40 = 7 := by decide
theorem cnt_41 : cnt 41 = 1 := by decide
theorem aT_41 : aT 41 = 0 := by decide
theorem aN_41 : aN 41 = 7 := by decide
theorem cnt_42 : cnt 42 = 1 := by decide
theorem aT_42 : aT 42 = 0 := by decide
theorem aN_42 : aN 42 = 7 := by decide
theorem cnt_43 : cnt 43 = 1 := by decide
theorem aT_43 : aT 43 = 0 := by decide
theorem aN_43 : aN 43 = 99 := by decide
theorem cnt_44 : cnt 44 = 1 := by decide
theorem aT_44 : aT 44 = 0 := by decide
theorem aN_44 : aN 44 = 99 := by decide
theorem cnt_45 : cnt 45 = 1 := by decide
theorem aT_45 : aT 45 = 0 := by decide
theorem aN_45 : aN 45 = 2970 := by decide
theorem cnt_46 : cnt 46 = 1 := by decide
theorem aT_46 : aT 46 = 0 := by decide
theorem aN_46 : aN 46 = 198 := by decide
theorem cnt_47 : cnt 47 = 1 := by decide
theorem aT_47 : aT 47 = 0 := by decide
theorem aN_47 : aN 47 = 2 := by decide
theorem cnt_48 : cnt 48 = 1 := by decide
theorem aT_48 : aT 48 = 1 := by decide
theorem aN_48 : aN 48 = 2 := by decide
theorem cnt_49 : cnt 49 = 1 := by decide
theorem aT_49 : aT 49 = 0 := by decide
theorem aN_49 : aN 49 = 18 := by decide
theorem cnt_50 : cnt 50 = 1 := by decide
theorem aT_50 : aT 50 = 0 := by decide
theorem aN_50 : aN 50 = 40 := by decide
theorem cnt_51 : cnt 51 = 1 := by decide
theorem aT_51 : aT 51 = 0 := by decide
theorem aN_51 : aN 51 = 22 := by decide
theorem hbX7_init : mb mX7_init = cX7_init := rfl
theorem hoX7_init : mo mX7_init = 7 := rfl
theorem hmX7_init : mL mX7_init = 3 := rfl
theorem hlX7_init : ll mX7_init = 99 := rfl
theorem hrX7_init : mr mX7_init = none := rfl
theorem hqX7_init : rl mX7_init = 65 := rfl
theorem hnX7_init : mn mX7_init = 0 := rfl
theorem hfX7_init : 1 ≤ rf mX7_init := by decide +kernel
theorem hbX4_init : mb mX4_init = cX4_init := rfl
theorem hoX4_init : mo mX4_init = 4 := rfl
theorem hmX4_init : mL mX4_init = 1 := rfl
theorem hlX4_init : ll mX4_init = 99 := rfl
theorem hrX4_init : mr mX4_init = none := rfl
theorem hqX4_init : rl mX4_init = 20 := rfl
theorem hnX4_init : mn mX4_init = 0 := rfl
theorem hfX4_init : 1 ≤ rf mX4_init := by decide +kernel
theorem hbX6_init : mb mX6_init = cX6_init := rfl
theorem hoX6_init : mo mX6_init = 6 := rfl
theorem hmX6_init : mL mX6_init = 2 := rfl
theorem hlX6_init : ll mX6_init = 99 := rfl
theorem hrX6_init : mr mX6_init = none := rfl
theorem hqX6_init : rl mX6_init = 20 := rfl
theorem hnX6_init : mn mX6_init = 1 := rfl
theorem hfX6_init : 1 ≤ rf mX6_init := by decide +kernel
theorem hbX5_init : mb mX5_init = cX5_init := rfl
theorem hoX5_init : mo mX5_init = 5 := rfl
theorem hmX5_init : mL mX5_init = 2 := rfl
theorem hlX5_init : ll mX5_init = 99 := rfl
theorem hrX5_init : mr mX5_init = none := rfl
theorem hqX5_init : rl mX5_init = 22 := rfl
theorem hnX5_init : mn mX5_init = 1 := rfl
theorem hfX5_init : 1 ≤ rf mX5_init := by decide +kernel
theorem hbX5_begin : mb mX5_begin = cX5_begin := rfl
theorem hoX5_begin : mo mX5_begin = 5 := rfl
theorem hmX5_begin : mL mX5_begin = 3 := rfl
theorem hlX5_begin : ll mX5_begin = 99 := rfl
theorem hrX5_begin : mr mX5_begin = none := rfl
theorem hqX5_begin : rl mX5_begin = 0 := rfl
theorem hnX5_begin : mn mX5_begin = 1 := rfl
theorem hbX3_init : mb mX3_init = cX3_init := rfl
theorem hoX3_init : mo mX3_init = 3 := rfl
theorem hmX3_init : mL mX3_init = 3 := rfl
theorem hlX3_init : ll mX3_init = 99 := rfl
theorem hrX3_init : mr mX3_init = none := rfl
theorem hqX3_init : rl mX3_init = 43 := rfl
theorem hnX3_init : mn mX3_init = 1 := rfl
theorem hfX3_init : 1 ≤ rf mX3_init := by decide +kernel
theorem hbX2_init : mb mX2_init = cX2_init := rfl
theorem hoX2_init : mo mX2_init = 2 := rfl
theorem hmX2_init : mL mX2_init = 2 := rfl
theorem hlX2_init : ll mX2_init = 99 := rfl
theorem hrX2_init : mr mX2_init = none := rfl
theorem hqX2_init : rl mX2_init = 43 := rfl
theorem hnX2_init : mn mX2_init = 1 := rfl
theorem hfX2_init : 1 ≤ rf mX2_init := by decide +kernel
theorem hbX1_init : mb mX1_init = cX1_init := rfl
theorem hoX1_init : mo mX1_init = 1 := rfl
theorem hmX1_init : mL mX1_init = 1 := rfl
theorem hlX1_init : ll mX1_init = 99 := rfl
theorem hrX1_init : mr mX1_init = none := rfl
theorem hqX1_init : rl mX1_init = 20 := rfl
theorem hnX1_init : mn mX1_init = 0 := rfl
theorem hfX1_init : 1 ≤ rf mX1_init := by decide +kernel
theorem hbX0_init : mb mX0_init = cX0_init := rfl
theorem hoX0_init : mo mX0_init = 0 := rfl
theorem hmX0_init : mL mX0_init = 1 := rfl
theorem hlX0_init : ll mX0_init = 99 := rfl
theorem hrX0_init : mr mX0_init = none := rfl
theorem hqX0_init : rl mX0_init = 20 := rfl
theorem hnX0_init : mn mX0_init = 0 := rfl
theorem hfX0_init : 1 ≤ rf mX0_init := by decide +kernel
theorem hbX7_feed : mb mX7_feed = cX7_feed := rfl
theorem hoX7_feed : mo mX7_feed = 7 := rfl
theorem hmX7_feed : mL mX7_feed = 2 := rfl
theorem hlX7_feed : ll mX7_feed = 99 := rfl
theorem hrX7_feed : mr mX7_feed = (some .int) := rfl
theorem hqX7_feed : rl mX7_feed = 22 := rfl
theorem hnX7_feed : mn mX7_feed = 1 := rfl
theorem hfX7_feed : 1 ≤ rf mX7_feed := by decide +kernel
theorem hbX7_isOutside : mb mX7_isOutside = cX7_isOutside := rfl
theorem hoX7_isOutside : mo mX7_isOutside = 7 := rfl
theorem hmX7_isOutside : mL mX7_isOutside = 3 := rfl
theorem hlX7_isOutside : ll mX7_isOutside = 99 := rfl
theorem hrX7_isOutside : mr mX7_isOutside = (some .boolean) := rfl
theorem hqX7_isOutside : rl mX7_isOutside = 0 := rfl
theorem hnX7_isOutside : mn mX7_isOutside = 3 := rfl
theorem hbX6_append : mb mX6_append = cX6_append := rfl
theorem hoX6_append : mo mX6_append = 6 := rfl
theorem hmX6_append : mL mX6_append = 2 := rfl
theorem hlX6_append : ll mX6_append = 99 := rfl
theorem hrX6_append : mr mX6_append = (some .boolean) := rfl
theorem hqX6_append : rl mX6_append = 0 := rfl
theorem hnX6_append : mn mX6_append = 1 := rfl
theorem hbX7_row : mb mX7_row = cX7_row := rfl
theorem hoX7_row : mo mX7_row = 7 := rfl
theorem hmX7_row : mL mX7_row = 4 := rfl
theorem hlX7_row : ll mX7_row = 99 := rfl
theorem hrX7_row : mr mX7_row = (some .int) := rfl
theorem hqX7_row : rl mX7_row = 129 := rfl
theorem hnX7_row : mn mX7_row = 0 := rfl
theorem hfX7_row : 1 ≤ rf mX7_row := by decide +kernel
theorem hbX6_readInto : mb mX6_readInto = cX6_readInto := rfl
theorem hoX6_readInto : mo mX6_readInto = 6 := rfl
theorem hmX6_readInto : mL mX6_readInto = 3 := rfl
theorem hlX6_readInto : ll mX6_readInto = 99 := rfl
theorem hrX6_readInto : mr mX6_readInto = (some .int) := rfl
theorem hqX6_readInto : rl mX6_readInto = 107 := rfl
theorem hnX6_readInto : mn mX6_readInto = 1 := rfl
theorem hfX6_readInto : 1 ≤ rf mX6_readInto := by decide +kernel
theorem hbX4_wipe : mb mX4_wipe = cX4_wipe := rfl
theorem hoX4_wipe : mo mX4_wipe = 4 := rfl
theorem hmX4_wipe : mL mX4_wipe = 1 := rfl
theorem hlX4_wipe : ll mX4_wipe = 99 := rfl
theorem hrX4_wipe : mr mX4_wipe = none := rfl
theorem hqX4_wipe : rl mX4_wipe = 0 := rfl
theorem hnX4_wipe : mn mX4_wipe = 0 := rfl
theorem hbX6_skipBlanks : mb mX6_skipBlanks = cX6_skipBlanks := rfl
theorem hoX6_skipBlanks : mo mX6_skipBlanks = 6 := rfl
theorem hmX6_skipBlanks : mL mX6_skipBlanks = 1 := rfl
theorem hlX6_skipBlanks : ll mX6_skipBlanks = 99 := rfl
theorem hrX6_skipBlanks : mr mX6_skipBlanks = none := rfl
theorem hqX6_skipBlanks : rl mX6_skipBlanks = 0 := rfl
theorem hnX6_skipBlanks : mn mX6_skipBlanks = 0 := rfl
theorem hbX6_readClause : mb mX6_readClause = cX6_readClause := rfl
theorem hoX6_readClause : mo mX6_readClause = 6 := rfl
theorem hmX6_readClause : mL mX6_readClause = 3 := rfl
theorem hlX6_readClause : ll mX6_readClause = 99 := rfl
theorem hrX6_readClause : mr mX6_readClause = none := rfl
theorem hqX6_readClause : rl mX6_readClause = 85 := rfl
theorem hnX6_readClause : mn mX6_readClause = 0 := rfl
theorem hfX6_readClause : 1 ≤ rf mX6_readClause := by decide +kernel
theorem hbX6_letterHere : mb mX6_letterHere = cX6_letterHere := rfl
theorem hoX6_letterHere : mo mX6_letterHere = 6 := rfl
theorem hmX6_letterHere : mL mX6_letterHere = 1 := rfl
theorem hlX6_letterHere : ll mX6_letterHere = 99 := rfl
theorem hrX6_letterHere : mr mX6_letterHere = (some .int) := rfl
theorem hqX6_letterHere : rl mX6_letterHere = 0 := rfl
theorem hnX6_letterHere : mn mX6_letterHere = 0 := rfl
theorem hbX4_isTold : mb mX4_isTold = cX4_isTold := rfl
theorem hoX4_isTold : mo mX4_isTold = 4 := rfl
theorem hmX4_isTold : mL mX4_isTold = 1 := rfl
theorem hlX4_isTold : ll mX4_isTold = 99 := rfl
theorem hrX4_isTold : mr mX4_isTold = (some .boolean) := rfl
theorem hqX4_isTold : rl mX4_isTold = 0 := rfl
theorem hnX4_isTold : mn mX4_isTold = 0 := rfl
theorem hbX6_readCatches : mb mX6_readCatches = cX6_readCatches := rfl
theorem hoX6_readCatches : mo mX6_readCatches = 6 := rfl
theorem hmX6_readCatches : mL mX6_readCatches = 5 := rfl
theorem hlX6_readCatches : ll mX6_readCatches = 99 := rfl
theorem hrX6_readCatches : mr mX6_readCatches = none := rfl
theorem hqX6_readCatches : rl mX6_readCatches = 61 := rfl
theorem hnX6_readCatches : mn mX6_readCatches = 1 := rfl
theorem hfX6_readCatches : 1 ≤ rf mX6_readCatches := by decide +kernel
theorem hbX6_fail : mb mX6_fail = cX6_fail := rfl
theorem hoX6_fail : mo mX6_fail = 6 := rfl
theorem hmX6_fail : mL mX6_fail = 3 := rfl
theorem hlX6_fail : ll mX6_fail = 99 := rfl
theorem hrX6_fail : mr mX6_fail = none := rfl
theorem hqX6_fail : rl mX6_fail = 0 := rfl
theorem hnX6_fail : mn mX6_fail = 2 := rfl
theorem hbX6_readNumber : mb mX6_readNumber = cX6_readNumber := rfl
theorem hoX6_readNumber : mo mX6_readNumber = 6 := rfl
theorem hmX6_readNumber : mL mX6_readNumber = 5 := rfl
theorem hlX6_readNumber : ll mX6_readNumber = 99 := rfl
theorem hrX6_readNumber : mr mX6_readNumber = (some .int) := rfl
theorem hqX6_readNumber : rl mX6_readNumber = 22 := rfl
theorem hnX6_readNumber : mn mX6_readNumber = 2 := rfl
theorem hfX6_readNumber : 1 ≤ rf mX6_readNumber := by decide +kernel
theorem hbX6_isFigure : mb mX6_isFigure = cX6_isFigure := rfl
theorem hoX6_isFigure : mo mX6_isFigure = 6 := rfl
theorem hmX6_isFigure : mL mX6_isFigure = 1 := rfl
theorem hlX6_isFigure : ll mX6_isFigure = 99 := rfl
theorem hrX6_isFigure : mr mX6_isFigure = (some .boolean) := rfl
theorem hqX6_isFigure : rl mX6_isFigure = 0 := rfl
theorem hnX6_isFigure : mn mX6_isFigure = 1 := rfl
theorem hbX6_isNext : mb mX6_isNext = cX6_isNext := rfl
theorem hoX6_isNext : mo mX6_isNext = 6 := rfl
theorem hmX6_isNext : mL mX6_isNext = 2 := rfl
theorem hlX6_isNext : ll mX6_isNext = 99 := rfl
theorem hrX6_isNext : mr mX6_isNext = (some .boolean) := rfl
theorem hqX6_isNext : rl mX6_isNext = 20 := rfl
theorem hnX6_isNext : mn mX6_isNext = 1 := rfl
theorem hfX6_isNext : 1 ≤ rf mX6_isNext := by decide +kernel
theorem hbX6_readEnd : mb mX6_readEnd = cX6_readEnd := rfl
theorem hoX6_readEnd : mo mX6_readEnd = 6 := rfl
theorem hmX6_readEnd : mL mX6_readEnd = 1 := rfl
theorem hlX6_readEnd : ll mX6_readEnd = 99 := rfl
theorem hrX6_readEnd : mr mX6_readEnd = none := rfl
theorem hqX6_readEnd : rl mX6_readEnd = 41 := rfl
theorem hnX6_readEnd : mn mX6_readEnd = 0 := rfl
theorem hfX6_readEnd : 1 ≤ rf mX6_readEnd := by decide +kernel
theorem hbX6_readHouse : mb mX6_readHouse = cX6_readHouse := rfl
theorem hoX6_readHouse : mo mX6_readHouse = 6 := rfl
theorem hmX6_readHouse : mL mX6_readHouse = 2 := rfl
theorem hlX6_readHouse : ll mX6_readHouse = 99 := rfl
theorem hrX6_readHouse : mr mX6_readHouse = none := rfl
theorem hqX6_readHouse : rl mX6_readHouse = 61 := rfl
theorem hnX6_readHouse : mn mX6_readHouse = 0 := rfl
theorem hfX6_readHouse : 1 ≤ rf mX6_readHouse := by decide +kernel
theorem hbX6_readGull : mb mX6_readGull = cX6_readGull := rfl
theorem hoX6_readGull : mo mX6_readGull = 6 := rfl
theorem hmX6_readGull : mL mX6_readGull = 2 := rfl
theorem hlX6_readGull : ll mX6_readGull = 99 := rfl
theorem hrX6_readGull : mr mX6_readGull = none := rfl
theorem hqX6_readGull : rl mX6_readGull = 61 := rfl
theorem hnX6_readGull : mn mX6_readGull = 0 := rfl
theorem hfX6_readGull : 1 ≤ rf mX6_readGull := by decide +kernel
theorem hbX3_forget : mb mX3_forget = cX3_forget := rfl
theorem hoX3_forget : mo mX3_forget = 3 := rfl
theorem hmX3_forget : mL mX3_forget = 1 := rfl
theorem hlX3_forget : ll mX3_forget = 99 := rfl
theorem hrX3_forget : mr mX3_forget = none := rfl
theorem hqX3_forget : rl mX3_forget = 0 := rfl
theorem hnX3_forget : mn mX3_forget = 0 := rfl
theorem hbX7_fault : mb mX7_fault = cX7_fault := rfl
theorem hoX7_fault : mo mX7_fault = 7 := rfl
theorem hmX7_fault : mL mX7_fault = 1 := rfl
theorem hlX7_fault : ll mX7_fault = 99 := rfl
theorem hrX7_fault : mr mX7_fault = (some .int) := rfl
theorem hqX7_fault : rl mX7_fault = 0 := rfl
theorem hnX7_fault : mn mX7_fault = 0 := rfl
theorem hbX7_told : mb mX7_told = cX7_told := rfl
theorem hoX7_told : mo mX7_told = 7 := rfl
theorem hmX7_told : mL mX7_told = 2 := rfl
theorem hlX7_told : ll mX7_told = 99 := rfl
theorem hrX7_told : mr mX7_told = (some .int) := rfl
theorem hqX7_told : rl mX7_told = 108 := rfl
theorem hnX7_told : mn mX7_told = 1 := rfl
theorem hfX7_told : 1 ≤ rf mX7_told := by decide +kernel
theorem hbX5_heldSet : mb mX5_heldSet = cX5_heldSet := rfl
theorem hoX5_heldSet : mo mX5_heldSet = 5 := rfl
theorem hmX5_heldSet : mL mX5_heldSet = 1 := rfl
theorem hlX5_heldSet : ll mX5_heldSet = 99 := rfl
theorem hrX5_heldSet : mr mX5_heldSet = (some .int) := rfl
theorem hqX5_heldSet : rl mX5_heldSet = 22 := rfl
theorem hnX5_heldSet : mn mX5_heldSet = 0 := rfl
theorem hfX5_heldSet : 1 ≤ rf mX5_heldSet := by decide +kernel
theorem hbX5_gullHeldSet : mb mX5_gullHeldSet = cX5_gullHeldSet := rfl
theorem hoX5_gullHeldSet : mo mX5_gullHeldSet = 5 := rfl
theorem hmX5_gullHeldSet : mL mX5_gullHeldSet = 3 := rfl
theorem hlX5_gullHeldSet : ll mX5_gullHeldSet = 99 := rfl
theorem hrX5_gullHeldSet : mr mX5_gullHeldSet = (some .int) := rfl
theorem hqX5_gullHeldSet : rl mX5_gullHeldSet = 0 := rfl
theorem hnX5_gullHeldSet : mn mX5_gullHeldSet = 0 := rfl
theorem hbX5_freeSet : mb mX5_freeSet = cX5_freeSet := rfl
theorem hoX5_freeSet : mo mX5_freeSet = 5 := rfl
theorem hmX5_freeSet : mL mX5_freeSet = 1 := rfl
theorem hlX5_freeSet : ll mX5_freeSet = 99 := rfl
theorem hrX5_freeSet : mr mX5_freeSet = (some .int) := rfl
theorem hqX5_freeSet : rl mX5_freeSet = 22 := rfl
theorem hnX5_freeSet : mn mX5_freeSet = 0 := rfl
theorem hfX5_freeSet : 1 ≤ rf mX5_freeSet := by decide +kernel
theorem hbX5_debtOfHeld : mb mX5_debtOfHeld = cX5_debtOfHeld := rfl
theorem hoX5_debtOfHeld : mo mX5_debtOfHeld = 5 := rfl
theorem hmX5_debtOfHeld : mL mX5_debtOfHeld = 3 := rfl
theorem hlX5_debtOfHeld : ll mX5_debtOfHeld = 99 := rfl
theorem hrX5_debtOfHeld : mr mX5_debtOfHeld = (some .int) := rfl
theorem hqX5_debtOfHeld : rl mX5_debtOfHeld = 63 := rfl
theorem hnX5_debtOfHeld : mn mX5_debtOfHeld = 0 := rfl
theorem hfX5_debtOfHeld : 1 ≤ rf mX5_debtOfHeld := by decide +kernel
theorem hbX5_isHeld : mb mX5_isHeld = cX5_isHeld := rfl
theorem hoX5_isHeld : mo mX5_isHeld = 5 := rfl
theorem hmX5_isHeld : mL mX5_isHeld = 2 := rfl
theorem hlX5_isHeld : ll mX5_isHeld = 99 := rfl
theorem hrX5_isHeld : mr mX5_isHeld = (some .boolean) := rfl
theorem hqX5_isHeld : rl mX5_isHeld = 42 := rfl
theorem hnX5_isHeld : mn mX5_isHeld = 1 := rfl
theorem hfX5_isHeld : 1 ≤ rf mX5_isHeld := by decide +kernel
theorem hbX5_isEmpty : mb mX5_isEmpty = cX5_isEmpty := rfl
theorem hoX5_isEmpty : mo mX5_isEmpty = 5 := rfl
theorem hmX5_isEmpty : mL mX5_isEmpty = 2 := rfl
theorem hlX5_isEmpty : ll mX5_isEmpty = 99 := rfl
theorem hrX5_isEmpty : mr mX5_isEmpty = (some .boolean) := rfl
theorem hqX5_isEmpty : rl mX5_isEmpty = 21 := rfl
theorem hnX5_isEmpty : mn mX5_isEmpty = 1 := rfl
theorem hfX5_isEmpty : 1 ≤ rf mX5_isEmpty := by decide +kernel
theorem hbX7_isIn : mb mX7_isIn = cX7_isIn := rfl
theorem hoX7_isIn : mo mX7_isIn = 7 := rfl
theorem hmX7_isIn : mL mX7_isIn = 2 := rfl
theorem hlX7_isIn : ll mX7_isIn = 99 := rfl
theorem hrX7_isIn : mr mX7_isIn = (some .boolean) := rfl
theorem hqX7_isIn : rl mX7_isIn = 0 := rfl
theorem hnX7_isIn : mn mX7_isIn = 2 := rfl
theorem hbX5_astray : mb mX5_astray = cX5_astray := rfl
theorem hoX5_astray : mo mX5_astray = 5 := rfl
theorem hmX5_astray : mL mX5_astray = 3 := rfl
theorem hlX5_astray : ll mX5_astray = 99 := rfl
theorem hrX5_astray : mr mX5_astray = (some .int) := rfl
theorem hqX5_astray : rl mX5_astray = 0 := rfl
theorem hnX5_astray : mn mX5_astray = 0 := rfl
theorem hbX5_gap : mb mX5_gap = cX5_gap := rfl
theorem hoX5_gap : mo mX5_gap = 5 := rfl
theorem hmX5_gap : mL mX5_gap = 4 := rfl
theorem hlX5_gap : ll mX5_gap = 99 := rfl
theorem hrX5_gap : mr mX5_gap = (some .int) := rfl
theorem hqX5_gap : rl mX5_gap = 85 := rfl
theorem hnX5_gap : mn mX5_gap = 0 := rfl
theorem hfX5_gap : 1 ≤ rf mX5_gap := by decide +kernel
theorem hbX5_worst : mb mX5_worst = cX5_worst := rfl
theorem hoX5_worst : mo mX5_worst = 5 := rfl
theorem hmX5_worst : mL mX5_worst = 3 := rfl
theorem hlX5_worst : ll mX5_worst = 99 := rfl
theorem hrX5_worst : mr mX5_worst = (some .int) := rfl
theorem hqX5_worst : rl mX5_worst = 63 := rfl
theorem hnX5_worst : mn mX5_worst = 0 := rfl
theorem hfX5_worst : 1 ≤ rf mX5_worst := by decide +kernel
theorem hbX7_house : mb mX7_house = cX7_house := rfl
theorem hoX7_house : mo mX7_house = 7 := rfl
theorem hmX7_house : mL mX7_house = 3 := rfl
theorem hlX7_house : ll mX7_house = 99 := rfl
theorem hrX7_house : mr mX7_house = (some .int) := rfl
theorem hqX7_house : rl mX7_house = 63 := rfl
theorem hnX7_house : mn mX7_house = 2 := rfl
theorem hfX7_house : 1 ≤ rf mX7_house := by decide +kernel
theorem hbX4_isHouse : mb mX4_isHouse = cX4_isHouse := rfl
theorem hoX4_isHouse : mo mX4_isHouse = 4 := rfl
theorem hmX4_isHouse : mL mX4_isHouse = 2 := rfl
theorem hlX4_isHouse : ll mX4_isHouse = 99 := rfl
theorem hrX4_isHouse : mr mX4_isHouse = (some .boolean) := rfl
theorem hqX4_isHouse : rl mX4_isHouse = 0 := rfl
theorem hnX4_isHouse : mn mX4_isHouse = 1 := rfl
theorem hbX5_standing : mb mX5_standing = cX5_standing := rfl
theorem hoX5_standing : mo mX5_standing = 5 := rfl
theorem hmX5_standing : mL mX5_standing = 2 := rfl
theorem hlX5_standing : ll mX5_standing = 99 := rfl
theorem hrX5_standing : mr mX5_standing = (some .int) := rfl
theorem hqX5_standing : rl mX5_standing = 42 := rfl
theorem hnX5_standing : mn mX5_standing = 1 := rfl
theorem hfX5_standing : 1 ≤ rf mX5_standing := by decide +kernel
theorem hbX7_gull : mb mX7_gull = cX7_gull := rfl
theorem hoX7_gull : mo mX7_gull = 7 := rfl
theorem hmX7_gull : mL mX7_gull = 3 := rfl
theorem hlX7_gull : ll mX7_gull = 99 := rfl
theorem hrX7_gull : mr mX7_gull = (some .int) := rfl
theorem hqX7_gull : rl mX7_gull = 22 := rfl
theorem hnX7_gull : mn mX7_gull = 2 := rfl
theorem hfX7_gull : 1 ≤ rf mX7_gull := by decide +kernel
theorem hbX4_isGull : mb mX4_isGull = cX4_isGull := rfl
theorem hoX4_isGull : mo mX4_isGull = 4 := rfl
theorem hmX4_isGull : mL mX4_isGull = 2 := rfl
theorem hlX4_isGull : ll mX4_isGull = 99 := rfl
theorem hrX4_isGull : mr mX4_isGull = (some .boolean) := rfl
theorem hqX4_isGull : rl mX4_isGull = 0 := rfl
theorem hnX4_isGull : mn mX4_isGull = 1 := rfl
theorem hbX5_houseOf : mb mX5_houseOf = cX5_houseOf := rfl
theorem hoX5_houseOf : mo mX5_houseOf = 5 := rfl
theorem hmX5_houseOf : mL mX5_houseOf = 3 := rfl
theorem hlX5_houseOf : ll mX5_houseOf = 99 := rfl
theorem hrX5_houseOf : mr mX5_houseOf = (some .int) := rfl
theorem hqX5_houseOf : rl mX5_houseOf = 0 := rfl
theorem hnX5_houseOf : mn mX5_houseOf = 1 := rfl
theorem hbX7_ahead : mb mX7_ahead = cX7_ahead := rfl
theorem hoX7_ahead : mo mX7_ahead = 7 := rfl
theorem hmX7_ahead : mL mX7_ahead = 2 := rfl
theorem hlX7_ahead : ll mX7_ahead = 99 := rfl
theorem hrX7_ahead : mr mX7_ahead = (some .int) := rfl
theorem hqX7_ahead : rl mX7_ahead = 22 := rfl
theorem hnX7_ahead : mn mX7_ahead = 1 := rfl
theorem hfX7_ahead : 1 ≤ rf mX7_ahead := by decide +kernel
theorem hbX4_catchOf : mb mX4_catchOf = cX4_catchOf := rfl
theorem hoX4_catchOf : mo mX4_catchOf = 4 := rfl
theorem hmX4_catchOf : mL mX4_catchOf = 2 := rfl
theorem hlX4_catchOf : ll mX4_catchOf = 99 := rfl
theorem hrX4_catchOf : mr mX4_catchOf = (some .int) := rfl
theorem hqX4_catchOf : rl mX4_catchOf = 0 := rfl
theorem hnX4_catchOf : mn mX4_catchOf = 1 := rfl
theorem hbX7_logged : mb mX7_logged = cX7_logged := rfl
theorem hoX7_logged : mo mX7_logged = 7 := rfl
theorem hmX7_logged : mL mX7_logged = 3 := rfl
theorem hlX7_logged : ll mX7_logged = 99 := rfl
theorem hrX7_logged : mr mX7_logged = (some .int) := rfl
theorem hqX7_logged : rl mX7_logged = 23 := rfl
theorem hnX7_logged : mn mX7_logged = 2 := rfl
theorem hfX7_logged : 1 ≤ rf mX7_logged := by decide +kernel
theorem hbX5_cryAt : mb mX5_cryAt = cX5_cryAt := rfl
theorem hoX5_cryAt : mo mX5_cryAt = 5 := rfl
theorem hmX5_cryAt : mL mX5_cryAt = 4 := rfl
theorem hlX5_cryAt : ll mX5_cryAt = 99 := rfl
theorem hrX5_cryAt : mr mX5_cryAt = (some .int) := rfl
theorem hqX5_cryAt : rl mX5_cryAt = 0 := rfl
theorem hnX5_cryAt : mn mX5_cryAt = 2 := rfl
theorem hbX7_day : mb mX7_day = cX7_day := rfl
theorem hoX7_day : mo mX7_day = 7 := rfl
theorem hmX7_day : mL mX7_day = 4 := rfl
theorem hlX7_day : ll mX7_day = 99 := rfl
theorem hrX7_day : mr mX7_day = (some .int) := rfl
theorem hqX7_day : rl mX7_day = 111 := rfl
theorem hnX7_day : mn mX7_day = 1 := rfl
theorem hfX7_day : 1 ≤ rf mX7_day := by decide +kernel
theorem hbX7_refusalOfDays : mb mX7_refusalOfDays = cX7_refusalOfDays := rfl
theorem hoX7_refusalOfDays : mo mX7_refusalOfDays = 7 := rfl
theorem hmX7_refusalOfDays : mL mX7_refusalOfDays = 2 := rfl
theorem hlX7_refusalOfDays : ll mX7_refusalOfDays = 99 := rfl
theorem hrX7_refusalOfDays : mr mX7_refusalOfDays = (some .int) := rfl
theorem hqX7_refusalOfDays : rl mX7_refusalOfDays = 22 := rfl
theorem hnX7_refusalOfDays : mn mX7_refusalOfDays = 1 := rfl
theorem hfX7_refusalOfDays : 1 ≤ rf mX7_refusalOfDays := by decide +kernel
theorem hbX3_remember : mb mX3_remember = cX3_remember := rfl
theorem hoX3_remember : mo mX3_remember = 3 := rfl
theorem hmX3_remember : mL mX3_remember = 2 := rfl
theorem hlX3_remember : ll mX3_remember = 99 := rfl
theorem hrX3_remember : mr mX3_remember = none := rfl
theorem hqX3_remember : rl mX3_remember = 47 := rfl
theorem hnX3_remember : mn mX3_remember = 1 := rfl
theorem hfX3_remember : 1 ≤ rf mX3_remember := by decide +kernel
theorem hbX5_copyFrom : mb mX5_copyFrom = cX5_copyFrom := rfl
theorem hoX5_copyFrom : mo mX5_copyFrom = 5 := rfl
theorem hmX5_copyFrom : mL mX5_copyFrom = 2 := rfl
theorem hlX5_copyFrom : ll mX5_copyFrom = 99 := rfl
theorem hrX5_copyFrom : mr mX5_copyFrom = none := rfl
theorem hqX5_copyFrom : rl mX5_copyFrom = 26 := rfl
theorem hnX5_copyFrom : mn mX5_copyFrom = 1 := rfl
theorem hfX5_copyFrom : 1 ≤ rf mX5_copyFrom := by decide +kernel
theorem hbX5_passDay : mb mX5_passDay = cX5_passDay := rfl
theorem hoX5_passDay : mo mX5_passDay = 5 := rfl
theorem hmX5_passDay : mL mX5_passDay = 4 := rfl
theorem hlX5_passDay : ll mX5_passDay = 99 := rfl
theorem hrX5_passDay : mr mX5_passDay = none := rfl
theorem hqX5_passDay : rl mX5_passDay = 88 := rfl
theorem hnX5_passDay : mn mX5_passDay = 0 := rfl
theorem hfX5_passDay : 1 ≤ rf mX5_passDay := by decide +kernel
theorem hbX5_addHeads : mb mX5_addHeads = cX5_addHeads := rfl
theorem hoX5_addHeads : mo mX5_addHeads = 5 := rfl
theorem hmX5_addHeads : mL mX5_addHeads = 2 := rfl
theorem hlX5_addHeads : ll mX5_addHeads = 99 := rfl
theorem hrX5_addHeads : mr mX5_addHeads = none := rfl
theorem hqX5_addHeads : rl mX5_addHeads = 21 := rfl
theorem hnX5_addHeads : mn mX5_addHeads = 1 := rfl
theorem hfX5_addHeads : 1 ≤ rf mX5_addHeads := by decide +kernel
theorem hbX5_firstTurn : mb mX5_firstTurn = cX5_firstTurn := rfl
theorem hoX5_firstTurn : mo mX5_firstTurn = 5 := rfl
theorem hmX5_firstTurn : mL mX5_firstTurn = 1 := rfl
theorem hlX5_firstTurn : ll mX5_firstTurn = 99 := rfl
theorem hrX5_firstTurn : mr mX5_firstTurn = (some .int) := rfl
theorem hqX5_firstTurn : rl mX5_firstTurn = 0 := rfl
theorem hnX5_firstTurn : mn mX5_firstTurn = 0 := rfl
theorem hbX5_takeTurn : mb mX5_takeTurn = cX5_takeTurn := rfl
theorem hoX5_takeTurn : mo mX5_takeTurn = 5 := rfl
theorem hmX5_takeTurn : mL mX5_takeTurn = 6 := rfl
theorem hlX5_takeTurn : ll mX5_takeTurn = 99 := rfl
theorem hrX5_takeTurn : mr mX5_takeTurn = none := rfl
theorem hqX5_takeTurn : rl mX5_takeTurn = 63 := rfl
theorem hnX5_takeTurn : mn mX5_takeTurn = 1 := rfl
theorem hfX5_takeTurn : 1 ≤ rf mX5_takeTurn := by decide +kernel
theorem hbX5_cryOut : mb mX5_cryOut = cX5_cryOut := rfl
theorem hoX5_cryOut : mo mX5_cryOut = 5 := rfl
theorem hmX5_cryOut : mL mX5_cryOut = 3 := rfl
theorem hlX5_cryOut : ll mX5_cryOut = 99 := rfl
theorem hrX5_cryOut : mr mX5_cryOut = none := rfl
theorem hqX5_cryOut : rl mX5_cryOut = 21 := rfl
theorem hnX5_cryOut : mn mX5_cryOut = 2 := rfl
theorem hfX5_cryOut : 1 ≤ rf mX5_cryOut := by decide +kernel
theorem hbX5_countGoodDay : mb mX5_countGoodDay = cX5_countGoodDay := rfl
theorem hoX5_countGoodDay : mo mX5_countGoodDay = 5 := rfl
theorem hmX5_countGoodDay : mL mX5_countGoodDay = 2 := rfl
theorem hlX5_countGoodDay : ll mX5_countGoodDay = 99 := rfl
theorem hrX5_countGoodDay : mr mX5_countGoodDay = none := rfl
theorem hqX5_countGoodDay : rl mX5_countGoodDay = 0 := rfl
theorem hnX5_countGoodDay : mn mX5_countGoodDay = 1 := rfl
theorem hbX5_evict : mb mX5_evict = cX5_evict := rfl
theorem hoX5_evict : mo mX5_evict = 5 := rfl
theorem hmX5_evict : mL mX5_evict = 2 := rfl
theorem hlX5_evict : ll mX5_evict = 99 := rfl
theorem hrX5_evict : mr mX5_evict = none := rfl
theorem hqX5_evict : rl mX5_evict = 0 := rfl
theorem hnX5_evict : mn mX5_evict = 1 := rfl
theorem hbX7_pay : mb mX7_pay = cX7_pay := rfl
theorem hoX7_pay : mo mX7_pay = 7 := rfl
theorem hmX7_pay : mL mX7_pay = 3 := rfl
theorem hlX7_pay : ll mX7_pay = 99 := rfl
theorem hrX7_pay : mr mX7_pay = (some .int) := rfl
theorem hqX7_pay : rl mX7_pay = 85 := rfl
theorem hnX7_pay : mn mX7_pay = 2 := rfl
theorem hfX7_pay : 1 ≤ rf mX7_pay := by decide +kernel
theorem hbX5_canPay : mb mX5_canPay = cX5_canPay := rfl
theorem hoX5_canPay : mo mX5_canPay = 5 := rfl
theorem hmX5_canPay : mL mX5_canPay = 3 := rfl
theorem hlX5_canPay : ll mX5_canPay = 99 := rfl
theorem hrX5_canPay : mr mX5_canPay = (some .boolean) := rfl
theorem hqX5_canPay : rl mX5_canPay = 63 := rfl
theorem hnX5_canPay : mn mX5_canPay = 2 := rfl
theorem hfX5_canPay : 1 ≤ rf mX5_canPay := by decide +kernel
theorem hbX5_payByHand : mb mX5_payByHand = cX5_payByHand := rfl
theorem hoX5_payByHand : mo mX5_payByHand = 5 := rfl
theorem hmX5_payByHand : mL mX5_payByHand = 3 := rfl
theorem hlX5_payByHand : ll mX5_payByHand = 99 := rfl
theorem hrX5_payByHand : mr mX5_payByHand = none := rfl
theorem hqX5_payByHand : rl mX5_payByHand = 0 := rfl
theorem hnX5_payByHand : mn mX5_payByHand = 2 := rfl
theorem hbX7_bread : mb mX7_bread = cX7_bread := rfl
theorem hoX7_bread : mo mX7_bread = 7 := rfl
theorem hmX7_bread : mL mX7_bread = 3 := rfl
theorem hlX7_bread : ll mX7_bread = 99 := rfl
theorem hrX7_bread : mr mX7_bread = (some .int) := rfl
theorem hqX7_bread : rl mX7_bread = 84 := rfl
theorem hnX7_bread : mn mX7_bread = 2 := rfl
theorem hfX7_bread : 1 ≤ rf mX7_bread := by decide +kernel
theorem hbX5_eatsBread : mb mX5_eatsBread = cX5_eatsBread := rfl
theorem hoX5_eatsBread : mo mX5_eatsBread = 5 := rfl
theorem hmX5_eatsBread : mL mX5_eatsBread = 2 := rfl
theorem hlX5_eatsBread : ll mX5_eatsBread = 99 := rfl
theorem hrX5_eatsBread : mr mX5_eatsBread = (some .boolean) := rfl
theorem hqX5_eatsBread : rl mX5_eatsBread = 63 := rfl
theorem hnX5_eatsBread : mn mX5_eatsBread = 1 := rfl
theorem hfX5_eatsBread : 1 ≤ rf mX5_eatsBread := by decide +kernel
theorem hbX5_payByBread : mb mX5_payByBread = cX5_payByBread := rfl
theorem hoX5_payByBread : mo mX5_payByBread = 5 := rfl
theorem hmX5_payByBread : mL mX5_payByBread = 3 := rfl
theorem hlX5_payByBread : ll mX5_payByBread = 99 := rfl
theorem hrX5_payByBread : mr mX5_payByBread = none := rfl
theorem hqX5_payByBread : rl mX5_payByBread = 21 := rfl
theorem hnX5_payByBread : mn mX5_payByBread = 2 := rfl
theorem hfX5_payByBread : 1 ≤ rf mX5_payByBread := by decide +kernel
theorem hbX7_stone : mb mX7_stone = cX7_stone := rfl
theorem hoX7_stone : mo mX7_stone = 7 := rfl
theorem hmX7_stone : mL mX7_stone = 2 := rfl
theorem hlX7_stone : ll mX7_stone = 99 := rfl
theorem hrX7_stone : mr mX7_stone = (some .int) := rfl
theorem hqX7_stone : rl mX7_stone = 68 := rfl
theorem hnX7_stone : mn mX7_stone = 1 := rfl
theorem hfX7_stone : 1 ≤ rf mX7_stone := by decide +kernel
theorem hbX7_lend : mb mX7_lend = cX7_lend := rfl
theorem hoX7_lend : mo mX7_lend = 7 := rfl
theorem hmX7_lend : mL mX7_lend = 2 := rfl
theorem hlX7_lend : ll mX7_lend = 99 := rfl
theorem hrX7_lend : mr mX7_lend = (some .int) := rfl
theorem hqX7_lend : rl mX7_lend = 68 := rfl
theorem hnX7_lend : mn mX7_lend = 1 := rfl
theorem hfX7_lend : 1 ≤ rf mX7_lend := by decide +kernel
theorem hbX7_swap : mb mX7_swap = cX7_swap := rfl
theorem hoX7_swap : mo mX7_swap = 7 := rfl
theorem hmX7_swap : mL mX7_swap = 3 := rfl
theorem hlX7_swap : ll mX7_swap = 99 := rfl
theorem hrX7_swap : mr mX7_swap = (some .int) := rfl
theorem hqX7_swap : rl mX7_swap = 68 := rfl
theorem hnX7_swap : mn mX7_swap = 2 := rfl
theorem hfX7_swap : 1 ≤ rf mX7_swap := by decide +kernel
theorem hbX5_canExchange : mb mX5_canExchange = cX5_canExchange := rfl
theorem hoX5_canExchange : mo mX5_canExchange = 5 := rfl
theorem hmX5_canExchange : mL mX5_canExchange = 3 := rfl
theorem hlX5_canExchange : ll mX5_canExchange = 99 := rfl
theorem hrX5_canExchange : mr mX5_canExchange = (some .boolean) := rfl
theorem hqX5_canExchange : rl mX5_canExchange = 0 := rfl
theorem hnX5_canExchange : mn mX5_canExchange = 2 := rfl
theorem hbX5_exchange : mb mX5_exchange = cX5_exchange := rfl
theorem hoX5_exchange : mo mX5_exchange = 5 := rfl
theorem hmX5_exchange : mL mX5_exchange = 4 := rfl
theorem hlX5_exchange : ll mX5_exchange = 99 := rfl
theorem hrX5_exchange : mr mX5_exchange = none := rfl
theorem hqX5_exchange : rl mX5_exchange = 0 := rfl
theorem hnX5_exchange : mn mX5_exchange = 2 := rfl
theorem hbX7_drift : mb mX7_drift = cX7_drift := rfl
theorem hoX7_drift : mo mX7_drift = 7 := rfl
theorem hmX7_drift : mL mX7_drift = 4 := rfl
theorem hlX7_drift : ll mX7_drift = 99 := rfl
theorem hrX7_drift : mr mX7_drift = (some .int) := rfl
theorem hqX7_drift : rl mX7_drift = 111 := rfl
theorem hnX7_drift : mn mX7_drift = 1 := rfl
theorem hfX7_drift : 1 ≤ rf mX7_drift := by decide +kernel
theorem hbX7_drawDeed : mb mX7_drawDeed = cX7_drawDeed := rfl
theorem hoX7_drawDeed : mo mX7_drawDeed = 7 := rfl
theorem hmX7_drawDeed : mL mX7_drawDeed = 5 := rfl
theorem hlX7_drawDeed : ll mX7_drawDeed = 99 := rfl
theorem hrX7_drawDeed : mr mX7_drawDeed = none := rfl
theorem hqX7_drawDeed : rl mX7_drawDeed = 85 := rfl
theorem hnX7_drawDeed : mn mX7_drawDeed = 0 := rfl
theorem hfX7_drawDeed : 1 ≤ rf mX7_drawDeed := by decide +kernel
theorem hbX7_draw : mb mX7_draw = cX7_draw := rfl
theorem hoX7_draw : mo mX7_draw = 7 := rfl
theorem hmX7_draw : mL mX7_draw = 2 := rfl
theorem hlX7_draw : ll mX7_draw = 99 := rfl
theorem hrX7_draw : mr mX7_draw = (some .int) := rfl
theorem hqX7_draw : rl mX7_draw = 0 := rfl
theorem hnX7_draw : mn mX7_draw = 1 := rfl
theorem hbX7_undo : mb mX7_undo = cX7_undo := rfl
theorem hoX7_undo : mo mX7_undo = 7 := rfl
theorem hmX7_undo : mL mX7_undo = 2 := rfl
theorem hlX7_undo : ll mX7_undo = 99 := rfl
theorem hrX7_undo : mr mX7_undo = (some .int) := rfl
theorem hqX7_undo : rl mX7_undo = 69 := rfl
theorem hnX7_undo : mn mX7_undo = 1 := rfl
theorem hfX7_undo : 1 ≤ rf mX7_undo := by decide +kernel
theorem hbX3_bringBack : mb mX3_bringBack = cX3_bringBack := rfl
theorem hoX3_bringBack : mo mX3_bringBack = 3 := rfl
theorem hmX3_bringBack : mL mX3_bringBack = 3 := rfl
theorem hlX3_bringBack : ll mX3_bringBack = 99 := rfl
theorem hrX3_bringBack : mr mX3_bringBack = (some .boolean) := rfl
theorem hqX3_bringBack : rl mX3_bringBack = 47 := rfl
theorem hnX3_bringBack : mn mX3_bringBack = 2 := rfl
theorem hfX3_bringBack : 1 ≤ rf mX3_bringBack := by decide +kernel
theorem hbX7_owes : mb mX7_owes = cX7_owes := rfl
theorem hoX7_owes : mo mX7_owes = 7 := rfl
theorem hmX7_owes : mL mX7_owes = 3 := rfl
theorem hlX7_owes : ll mX7_owes = 99 := rfl
theorem hrX7_owes : mr mX7_owes = (some .int) := rfl
theorem hqX7_owes : rl mX7_owes = 154 := rfl
theorem hnX7_owes : mn mX7_owes = 2 := rfl
theorem hfX7_owes : 1 ≤ rf mX7_owes := by decide +kernel
theorem hbX7_tryDays : mb mX7_tryDays = cX7_tryDays := rfl
theorem hoX7_tryDays : mo mX7_tryDays = 7 := rfl
theorem hmX7_tryDays : mL mX7_tryDays = 2 := rfl
theorem hlX7_tryDays : ll mX7_tryDays = 99 := rfl
theorem hrX7_tryDays : mr mX7_tryDays = none := rfl
theorem hqX7_tryDays : rl mX7_tryDays = 133 := rfl
theorem hnX7_tryDays : mn mX7_tryDays = 1 := rfl
theorem hfX7_tryDays : 1 ≤ rf mX7_tryDays := by decide +kernel
theorem hbX5_passDays : mb mX5_passDays = cX5_passDays := rfl
theorem hoX5_passDays : mo mX5_passDays = 5 := rfl
theorem hmX5_passDays : mL mX5_passDays = 3 := rfl
theorem hlX5_passDays : ll mX5_passDays = 99 := rfl
theorem hrX5_passDays : mr mX5_passDays = none := rfl
theorem hqX5_passDays : rl mX5_passDays = 111 := rfl
theorem hnX5_passDays : mn mX5_passDays = 1 := rfl
theorem hfX5_passDays : 1 ≤ rf mX5_passDays := by decide +kernel
theorem hbX7_firstOut : mb mX7_firstOut = cX7_firstOut := rfl
theorem hoX7_firstOut : mo mX7_firstOut = 7 := rfl
theorem hmX7_firstOut : mL mX7_firstOut = 4 := rfl
theorem hlX7_firstOut : ll mX7_firstOut = 99 := rfl
theorem hrX7_firstOut : mr mX7_firstOut = (some .int) := rfl
theorem hqX7_firstOut : rl mX7_firstOut = 111 := rfl
theorem hnX7_firstOut : mn mX7_firstOut = 1 := rfl
theorem hfX7_firstOut : 1 ≤ rf mX7_firstOut := by decide +kernel
theorem hbX7_newlyEmpty : mb mX7_newlyEmpty = cX7_newlyEmpty := rfl
theorem hoX7_newlyEmpty : mo mX7_newlyEmpty = 7 := rfl
theorem hmX7_newlyEmpty : mL mX7_newlyEmpty = 1 := rfl
theorem hlX7_newlyEmpty : ll mX7_newlyEmpty = 99 := rfl
theorem hrX7_newlyEmpty : mr mX7_newlyEmpty = (some .int) := rfl
theorem hqX7_newlyEmpty : rl mX7_newlyEmpty = 0 := rfl
theorem hnX7_newlyEmpty : mn mX7_newlyEmpty = 0 := rfl
theorem hbX7_firstInTurn : mb mX7_firstInTurn = cX7_firstInTurn := rfl
theorem hoX7_firstInTurn : mo mX7_firstInTurn = 7 := rfl
theorem hmX7_firstInTurn : mL mX7_firstInTurn = 6 := rfl
theorem hlX7_firstInTurn : ll mX7_firstInTurn = 99 := rfl
theorem hrX7_firstInTurn : mr mX7_firstInTurn = (some .int) := rfl
theorem hqX7_firstInTurn : rl mX7_firstInTurn = 21 := rfl
theorem hnX7_firstInTurn : mn mX7_firstInTurn = 2 := rfl
theorem hfX7_firstInTurn : 1 ≤ rf mX7_firstInTurn := by decide +kernel
theorem hbX7_outBy : mb mX7_outBy = cX7_outBy := rfl
theorem hoX7_outBy : mo mX7_outBy = 7 := rfl
theorem hmX7_outBy : mL mX7_outBy = 2 := rfl
theorem hlX7_outBy : ll mX7_outBy = 99 := rfl
theorem hrX7_outBy : mr mX7_outBy = (some .int) := rfl
theorem hqX7_outBy : rl mX7_outBy = 154 := rfl
theorem hnX7_outBy : mn mX7_outBy = 1 := rfl
theorem hfX7_outBy : 1 ≤ rf mX7_outBy := by decide +kernel
theorem hbX7_redeemedBy : mb mX7_redeemedBy = cX7_redeemedBy := rfl
theorem hoX7_redeemedBy : mo mX7_redeemedBy = 7 := rfl
theorem hmX7_redeemedBy : mL mX7_redeemedBy = 2 := rfl
theorem hlX7_redeemedBy : ll mX7_redeemedBy = 99 := rfl
theorem hrX7_redeemedBy : mr mX7_redeemedBy = (some .int) := rfl
theorem hqX7_redeemedBy : rl mX7_redeemedBy = 154 := rfl
theorem hnX7_redeemedBy : mn mX7_redeemedBy = 1 := rfl
theorem hfX7_redeemedBy : 1 ≤ rf mX7_redeemedBy := by decide +kernel
theorem hbX7_loan : mb mX7_loan = cX7_loan := rfl
theorem hoX7_loan : mo mX7_loan = 7 := rfl
theorem hmX7_loan : mL mX7_loan = 6 := rfl
theorem hlX7_loan : ll mX7_loan = 99 := rfl
theorem hrX7_loan : mr mX7_loan = (some .int) := rfl
theorem hqX7_loan : rl mX7_loan = 134 := rfl
theorem hnX7_loan : mn mX7_loan = 1 := rfl
theorem hfX7_loan : 1 ≤ rf mX7_loan := by decide +kernel
theorem hbX7_loanDoes : mb mX7_loanDoes = cX7_loanDoes := rfl
theorem hoX7_loanDoes : mo mX7_loanDoes = 7 := rfl
theorem hmX7_loanDoes : mL mX7_loanDoes = 4 := rfl
theorem hlX7_loanDoes : ll mX7_loanDoes = 99 := rfl
theorem hrX7_loanDoes : mr mX7_loanDoes = (some .boolean) := rfl
theorem hqX7_loanDoes : rl mX7_loanDoes = 111 := rfl
theorem hnX7_loanDoes : mn mX7_loanDoes = 2 := rfl
theorem hfX7_loanDoes : 1 ≤ rf mX7_loanDoes := by decide +kernel
theorem hbX7_clear : mb mX7_clear = cX7_clear := rfl
theorem hoX7_clear : mo mX7_clear = 7 := rfl
theorem hmX7_clear : mL mX7_clear = 5 := rfl
theorem hlX7_clear : ll mX7_clear = 99 := rfl
theorem hrX7_clear : mr mX7_clear = (some .int) := rfl
theorem hqX7_clear : rl mX7_clear = 86 := rfl
theorem hnX7_clear : mn mX7_clear = 1 := rfl
theorem hfX7_clear : 1 ≤ rf mX7_clear := by decide +kernel
theorem hbJ6_bitCount_0f7a4 : mb mJ6_bitCount_0f7a4 = cJ6_bitCount_0f7a4 := rfl
theorem hoJ6_bitCount_0f7a4 : mo mJ6_bitCount_0f7a4 = 9 := rfl
theorem hmJ6_bitCount_0f7a4 : mL mJ6_bitCount_0f7a4 = 1 := rfl
theorem hlJ6_bitCount_0f7a4 : ll mJ6_bitCount_0f7a4 = 99 := rfl
theorem hrJ6_bitCount_0f7a4 : mr mJ6_bitCount_0f7a4 = (some .int) := rfl
theorem hqJ6_bitCount_0f7a4 : rl mJ6_bitCount_0f7a4 = 0 := rfl
theorem hnJ6_bitCount_0f7a4 : mn mJ6_bitCount_0f7a4 = 1 := rfl
theorem hbX5_canClear : mb mX5_canClear = cX5_canClear := rfl
theorem hoX5_canClear : mo mX5_canClear = 5 := rfl
theorem hmX5_canClear : mL mX5_canClear = 4 := rfl
theorem hlX5_canClear : ll mX5_canClear = 99 := rfl
theorem hrX5_canClear : mr mX5_canClear = (some .boolean) := rfl
theorem hqX5_canClear : rl mX5_canClear = 63 := rfl
theorem hnX5_canClear : mn mX5_canClear = 1 := rfl
theorem hfX5_canClear : 1 ≤ rf mX5_canClear := by decide +kernel
theorem hbX7_bestSwap : mb mX7_bestSwap = cX7_bestSwap := rfl
theorem hoX7_bestSwap : mo mX7_bestSwap = 7 := rfl
theorem hmX7_bestSwap : mL mX7_bestSwap = 8 := rfl
theorem hlX7_bestSwap : ll mX7_bestSwap = 99 := rfl
theorem hrX7_bestSwap : mr mX7_bestSwap = (some .int) := rfl
theorem hqX7_bestSwap : rl mX7_bestSwap = 156 := rfl
theorem hnX7_bestSwap : mn mX7_bestSwap = 2 := rfl
theorem hfX7_bestSwap : 1 ≤ rf mX7_bestSwap := by decide +kernel
theorem hbX7_putOutBySwap : mb mX7_putOutBySwap = cX7_putOutBySwap := rfl
theorem hoX7_putOutBySwap : mo mX7_putOutBySwap = 7 := rfl
theorem hmX7_putOutBySwap : mL mX7_putOutBySwap = 4 := rfl
theorem hlX7_putOutBySwap : ll mX7_putOutBySwap = 99 := rfl
theorem hrX7_putOutBySwap : mr mX7_putOutBySwap = (some .int) := rfl
theorem hqX7_putOutBySwap : rl mX7_putOutBySwap = 133 := rfl
theorem hnX7_putOutBySwap : mn mX7_putOutBySwap = 3 := rfl
theorem hfX7_putOutBySwap : 1 ≤ rf mX7_putOutBySwap := by decide +kernel
theorem hbX7_home : mb mX7_home = cX7_home := rfl
theorem hoX7_home : mo mX7_home = 7 := rfl
theorem hmX7_home : mL mX7_home = 4 := rfl
theorem hlX7_home : ll mX7_home = 99 := rfl
theorem hrX7_home : mr mX7_home = (some .int) := rfl
theorem hqX7_home : rl mX7_home = 22 := rfl
theorem hnX7_home : mn mX7_home = 1 := rfl
theorem hfX7_home : 1 ≤ rf mX7_home := by decide +kernel
theorem hbX7_mostBread : mb mX7_mostBread = cX7_mostBread := rfl
theorem hoX7_mostBread : mo mX7_mostBread = 7 := rfl
theorem hmX7_mostBread : mL mX7_mostBread = 2 := rfl
theorem hlX7_mostBread : ll mX7_mostBread = 99 := rfl
theorem hrX7_mostBread : mr mX7_mostBread = (some .int) := rfl
theorem hqX7_mostBread : rl mX7_mostBread = 84 := rfl
theorem hnX7_mostBread : mn mX7_mostBread = 1 := rfl
theorem hfX7_mostBread : 1 ≤ rf mX7_mostBread := by decide +kernel
theorem hbX7_sure : mb mX7_sure = cX7_sure := rfl
theorem hoX7_sure : mo mX7_sure = 7 := rfl
theorem hmX7_sure : mL mX7_sure = 6 := rfl
theorem hlX7_sure : ll mX7_sure = 3 := rfl
theorem hrX7_sure : mr mX7_sure = (some .int) := rfl
theorem hqX7_sure : rl mX7_sure = 22 := rfl
theorem hnX7_sure : mn mX7_sure = 2 := rfl
theorem hfX7_sure : 1 ≤ rf mX7_sure := by decide +kernel
theorem hbX7_hear : mb mX7_hear = cX7_hear := rfl
theorem hoX7_hear : mo mX7_hear = 7 := rfl
theorem hmX7_hear : mL mX7_hear = 4 := rfl
theorem hlX7_hear : ll mX7_hear = 99 := rfl
theorem hrX7_hear : mr mX7_hear = (some .int) := rfl
theorem hqX7_hear : rl mX7_hear = 23 := rfl
theorem hnX7_hear : mn mX7_hear = 3 := rfl
theorem hfX7_hear : 1 ≤ rf mX7_hear := by decide +kernel
theorem hbX1_take : mb mX1_take = cX1_take := rfl
theorem hoX1_take : mo mX1_take = 1 := rfl
theorem hmX1_take : mL mX1_take = 4 := rfl
theorem hlX1_take : ll mX1_take = 99 := rfl
theorem hrX1_take : mr mX1_take = (some .boolean) := rfl
theorem hqX1_take : rl mX1_take = 0 := rfl
theorem hnX1_take : mn mX1_take = 3 := rfl
theorem hbX7_gales : mb mX7_gales = cX7_gales := rfl
theorem hoX7_gales : mo mX7_gales = 7 := rfl
theorem hmX7_gales : mL mX7_gales = 2 := rfl
theorem hlX7_gales : ll mX7_gales = 99 := rfl
theorem hrX7_gales : mr mX7_gales = (some .int) := rfl
theorem hqX7_gales : rl mX7_gales = 70 := rfl
theorem hnX7_gales : mn mX7_gales = 1 := rfl
theorem hfX7_gales : 1 ≤ rf mX7_gales := by decide +kernel
theorem hbX1_findGales : mb mX1_findGales = cX1_findGales := rfl
theorem hoX1_findGales : mo mX1_findGales = 1 := rfl
theorem hmX1_findGales : mL mX1_findGales = 4 := rfl
theorem hlX1_findGales : ll mX1_findGales = 99 := rfl
theorem hrX1_findGales : mr mX1_findGales = none := rfl
theorem hqX1_findGales : rl mX1_findGales = 47 := rfl
theorem hnX1_findGales : mn mX1_findGales = 1 := rfl
theorem hfX1_findGales : 1 ≤ rf mX1_findGales := by decide +kernel
theorem hbX1_addIfFitting : mb mX1_addIfFitting = cX1_addIfFitting := rfl
theorem hoX1_addIfFitting : mo mX1_addIfFitting = 1 := rfl
theorem hmX1_addIfFitting : mL mX1_addIfFitting = 5 := rfl
theorem hlX1_addIfFitting : ll mX1_addIfFitting = 99 := rfl
theorem hrX1_addIfFitting : mr mX1_addIfFitting = none := rfl
theorem hqX1_addIfFitting : rl mX1_addIfFitting = 23 := rfl
theorem hnX1_addIfFitting : mn mX1_addIfFitting = 2 := rfl
theorem hfX1_addIfFitting : 1 ≤ rf mX1_addIfFitting := by decide +kernel
theorem hbX1_gullThen : mb mX1_gullThen = cX1_gullThen := rfl
theorem hoX1_gullThen : mo mX1_gullThen = 1 := rfl
theorem hmX1_gullThen : mL mX1_gullThen = 4 := rfl
theorem hlX1_gullThen : ll mX1_gullThen = 99 := rfl
theorem hrX1_gullThen : mr mX1_gullThen = (some .int) := rfl
theorem hqX1_gullThen : rl mX1_gullThen = 0 := rfl
theorem hnX1_gullThen : mn mX1_gullThen = 3 := rfl
theorem hbX7_listen : mb mX7_listen = cX7_listen := rfl
theorem hoX7_listen : mo mX7_listen = 7 := rfl
theorem hmX7_listen : mL mX7_listen = 5 := rfl
theorem hlX7_listen : ll mX7_listen = 99 := rfl
theorem hrX7_listen : mr mX7_listen = (some .int) := rfl
theorem hqX7_listen : rl mX7_listen = 70 := rfl
theorem hnX7_listen : mn mX7_listen = 0 := rfl
theorem hfX7_listen : 1 ≤ rf mX7_listen := by decide +kernel
theorem hbX1_greatestPart : mb mX1_greatestPart = cX1_greatestPart := rfl
theorem hoX1_greatestPart : mo mX1_greatestPart = 1 := rfl
theorem hmX1_greatestPart : mL mX1_greatestPart = 6 := rfl
theorem hlX1_greatestPart : ll mX1_greatestPart = 99 := rfl
theorem hrX1_greatestPart : mr mX1_greatestPart = (some .int) := rfl
theorem hqX1_greatestPart : rl mX1_greatestPart = 23 := rfl
theorem hnX1_greatestPart : mn mX1_greatestPart = 2 := rfl
theorem hfX1_greatestPart : 1 ≤ rf mX1_greatestPart := by decide +kernel
theorem hbX7_write : mb mX7_write = cX7_write := rfl
theorem hoX7_write : mo mX7_write = 7 := rfl
theorem hmX7_write : mL mX7_write = 3 := rfl
theorem hlX7_write : ll mX7_write = 99 := rfl
theorem hrX7_write : mr mX7_write = (some .int) := rfl
theorem hqX7_write : rl mX7_write = 22 := rfl
theorem hnX7_write : mn mX7_write = 2 := rfl
theorem hfX7_write : 1 ≤ rf mX7_write := by decide +kernel
theorem hbX0_enter : mb mX0_enter = cX0_enter := rfl
theorem hoX0_enter : mo mX0_enter = 0 := rfl
theorem hmX0_enter : mL mX0_enter = 3 := rfl
theorem hlX0_enter : ll mX0_enter = 99 := rfl
theorem hrX0_enter : mr mX0_enter = (some .boolean) := rfl
theorem hqX0_enter : rl mX0_enter = 0 := rfl
theorem hnX0_enter : mn mX0_enter = 2 := rfl
theorem hbX7_judge : mb mX7_judge = cX7_judge := rfl
theorem hoX7_judge : mo mX7_judge = 7 := rfl
theorem hmX7_judge : mL mX7_judge = 1 := rfl
theorem hlX7_judge : ll mX7_judge = 99 := rfl
theorem hrX7_judge : mr mX7_judge = (some .int) := rfl
theorem hqX7_judge : rl mX7_judge = 22 := rfl
theorem hnX7_judge : mn mX7_judge = 0 := rfl
theorem hfX7_judge : 1 ≤ rf mX7_judge := by decide +kernel
theorem hbX0_firstWrong : mb mX0_firstWrong = cX0_firstWrong := rfl
theorem hoX0_firstWrong : mo mX0_firstWrong = 0 := rfl
theorem hmX0_firstWrong : mL mX0_firstWrong = 3 := rfl
theorem hlX0_firstWrong : ll mX0_firstWrong = 99 := rfl
theorem hrX0_firstWrong : mr mX0_firstWrong = (some .int) := rfl
theorem hqX0_firstWrong : rl mX0_firstWrong = 0 := rfl
theorem hnX0_firstWrong : mn mX0_firstWrong = 1 := rfl
theorem hbX7_tear : mb mX7_tear = cX7_tear := rfl
theorem hoX7_tear : mo mX7_tear = 7 := rfl
theorem hmX7_tear : mL mX7_tear = 2 := rfl
theorem hlX7_tear : ll mX7_tear = 99 := rfl
theorem hrX7_tear : mr mX7_tear = (some .int) := rfl
theorem hqX7_tear : rl mX7_tear = 0 := rfl
theorem hnX7_tear : mn mX7_tear = 0 := rfl
theorem hbX7_seed : mb mX7_seed = cX7_seed := rfl
theorem hoX7_seed : mo mX7_seed = 7 := rfl
theorem hmX7_seed : mL mX7_seed = 3 := rfl
theorem hlX7_seed : ll mX7_seed = 99 := rfl
theorem hrX7_seed : mr mX7_seed = (some .int) := rfl
theorem hqX7_seed : rl mX7_seed = 0 := rfl
theorem hnX7_seed : mn mX7_seed = 1 := rfl
theorem hbX7_keep : mb mX7_keep = cX7_keep := rfl
theorem hoX7_keep : mo mX7_keep = 7 := rfl
theorem hmX7_keep : mL mX7_keep = 3 := rfl
theorem hlX7_keep : ll mX7_keep = 99 := rfl
theorem hrX7_keep : mr mX7_keep = (some .int) := rfl
theorem hqX7_keep : rl mX7_keep = 47 := rfl
theorem hnX7_keep : mn mX7_keep = 1 := rfl
theorem hfX7_keep : 1 ≤ rf mX7_keep := by decide +kernel
theorem hbX7_goBack : mb mX7_goBack = cX7_goBack := rfl
theorem hoX7_goBack : mo mX7_goBack = 7 := rfl
theorem hmX7_goBack : mL mX7_goBack = 3 := rfl
theorem hlX7_goBack : ll mX7_goBack = 99 := rfl
theorem hrX7_goBack : mr mX7_goBack = (some .int) := rfl
theorem hqX7_goBack : rl mX7_goBack = 47 := rfl
theorem hnX7_goBack : mn mX7_goBack = 1 := rfl
theorem hfX7_goBack : 1 ≤ rf mX7_goBack := by decide +kernel
theorem hbX8_init : mb mX8_init = cX8_init := rfl
theorem hoX8_init : mo mX8_init = 8 := rfl
theorem hmX8_init : mL mX8_init = 1 := rfl
theorem hlX8_init : ll mX8_init = 99 := rfl
theorem hrX8_init : mr mX8_init = none := rfl
theorem hqX8_init : rl mX8_init = 20 := rfl
theorem hnX8_init : mn mX8_init = 0 := rfl
theorem hfX8_init : 1 ≤ rf mX8_init := by decide +kernel
theorem hbX8_feed : mb mX8_feed = cX8_feed := rfl
theorem hoX8_feed : mo mX8_feed = 8 := rfl
theorem hmX8_feed : mL mX8_feed = 2 := rfl
theorem hlX8_feed : ll mX8_feed = 99 := rfl
theorem hrX8_feed : mr mX8_feed = (some .int) := rfl
theorem hqX8_feed : rl mX8_feed = 22 := rfl
theorem hnX8_feed : mn mX8_feed = 1 := rfl
theorem hfX8_feed : 1 ≤ rf mX8_feed := by decide +kernel
theorem hbX8_in : mb mX8_in = cX8_in := rfl
theorem hoX8_in : mo mX8_in = 8 := rfl
theorem hmX8_in : mL mX8_in = 3 := rfl
theorem hlX8_in : ll mX8_in = 99 := rfl
theorem hrX8_in : mr mX8_in = (some .boolean) := rfl
theorem hqX8_in : rl mX8_in = 0 := rfl
theorem hnX8_in : mn mX8_in = 3 := rfl
theorem hbX8_row : mb mX8_row = cX8_row := rfl
theorem hoX8_row : mo mX8_row = 8 := rfl
theorem hmX8_row : mL mX8_row = 2 := rfl
theorem hlX8_row : ll mX8_row = 99 := rfl
theorem hrX8_row : mr mX8_row = (some .int) := rfl
theorem hqX8_row : rl mX8_row = 105 := rfl
theorem hnX8_row : mn mX8_row = 0 := rfl
theorem hfX8_row : 1 ≤ rf mX8_row := by decide +kernel
theorem hbX8_skips : mb mX8_skips = cX8_skips := rfl
theorem hoX8_skips : mo mX8_skips = 8 := rfl
theorem hmX8_skips : mL mX8_skips = 1 := rfl
theorem hlX8_skips : ll mX8_skips = 99 := rfl
theorem hrX8_skips : mr mX8_skips = none := rfl
theorem hqX8_skips : rl mX8_skips = 20 := rfl
theorem hnX8_skips : mn mX8_skips = 0 := rfl
theorem hfX8_skips : 1 ≤ rf mX8_skips := by decide +kernel
theorem hbX8_look : mb mX8_look = cX8_look := rfl
theorem hoX8_look : mo mX8_look = 8 := rfl
theorem hmX8_look : mL mX8_look = 1 := rfl
theorem hlX8_look : ll mX8_look = 99 := rfl
theorem hrX8_look : mr mX8_look = (some .int) := rfl
theorem hqX8_look : rl mX8_look = 0 := rfl
theorem hnX8_look : mn mX8_look = 0 := rfl
theorem hbX8_reads : mb mX8_reads = cX8_reads := rfl
theorem hoX8_reads : mo mX8_reads = 8 := rfl
theorem hmX8_reads : mL mX8_reads = 1 := rfl
theorem hlX8_reads : ll mX8_reads = 99 := rfl
theorem hrX8_reads : mr mX8_reads = none := rfl
theorem hqX8_reads : rl mX8_reads = 85 := rfl
theorem hnX8_reads : mn mX8_reads = 0 := rfl
theorem hfX8_reads : 1 ≤ rf mX8_reads := by decide +kernel
theorem hbX8_readsCatches : mb mX8_readsCatches = cX8_readsCatches := rfl
theorem hoX8_readsCatches : mo mX8_readsCatches = 8 := rfl
theorem hmX8_readsCatches : mL mX8_readsCatches = 1 := rfl
theorem hlX8_readsCatches : ll mX8_readsCatches = 99 := rfl
theorem hrX8_readsCatches : mr mX8_readsCatches = none := rfl
theorem hqX8_readsCatches : rl mX8_readsCatches = 64 := rfl
theorem hnX8_readsCatches : mn mX8_readsCatches = 0 := rfl
theorem hfX8_readsCatches : 1 ≤ rf mX8_readsCatches := by decide +kernel
theorem hbX8_fails : mb mX8_fails = cX8_fails := rfl
theorem hoX8_fails : mo mX8_fails = 8 := rfl
theorem hmX8_fails : mL mX8_fails = 2 := rfl
theorem hlX8_fails : ll mX8_fails = 99 := rfl
theorem hrX8_fails : mr mX8_fails = none := rfl
theorem hqX8_fails : rl mX8_fails = 0 := rfl
theorem hnX8_fails : mn mX8_fails = 1 := rfl
theorem hbX8_number : mb mX8_number = cX8_number := rfl
theorem hoX8_number : mo mX8_number = 8 := rfl
theorem hmX8_number : mL mX8_number = 5 := rfl
theorem hlX8_number : ll mX8_number = 99 := rfl
theorem hrX8_number : mr mX8_number = (some .int) := rfl
theorem hqX8_number : rl mX8_number = 40 := rfl
theorem hnX8_number : mn mX8_number = 2 := rfl
theorem hfX8_number : 1 ≤ rf mX8_number := by decide +kernel
theorem hbX8_word : mb mX8_word = cX8_word := rfl
theorem hoX8_word : mo mX8_word = 8 := rfl
theorem hmX8_word : mL mX8_word = 2 := rfl
theorem hlX8_word : ll mX8_word = 99 := rfl
theorem hrX8_word : mr mX8_word = none := rfl
theorem hqX8_word : rl mX8_word = 40 := rfl
theorem hnX8_word : mn mX8_word = 1 := rfl
theorem hfX8_word : 1 ≤ rf mX8_word := by decide +kernel
theorem hbX8_readsHouse : mb mX8_readsHouse = cX8_readsHouse := rfl
theorem hoX8_readsHouse : mo mX8_readsHouse = 8 := rfl
theorem hmX8_readsHouse : mL mX8_readsHouse = 2 := rfl
theorem hlX8_readsHouse : ll mX8_readsHouse = 99 := rfl
theorem hrX8_readsHouse : mr mX8_readsHouse = none := rfl
theorem hqX8_readsHouse : rl mX8_readsHouse = 64 := rfl
theorem hnX8_readsHouse : mn mX8_readsHouse = 0 := rfl
theorem hfX8_readsHouse : 1 ≤ rf mX8_readsHouse := by decide +kernel
theorem hbX8_readsGull : mb mX8_readsGull = cX8_readsGull := rfl
theorem hoX8_readsGull : mo mX8_readsGull = 8 := rfl
theorem hmX8_readsGull : mL mX8_readsGull = 2 := rfl
theorem hlX8_readsGull : ll mX8_readsGull = 99 := rfl
theorem hrX8_readsGull : mr mX8_readsGull = none := rfl
theorem hqX8_readsGull : rl mX8_readsGull = 64 := rfl
theorem hnX8_readsGull : mn mX8_readsGull = 0 := rfl
theorem hfX8_readsGull : 1 ≤ rf mX8_readsGull := by decide +kernel
theorem hbX8_takesAll : mb mX8_takesAll = cX8_takesAll := rfl
theorem hoX8_takesAll : mo mX8_takesAll = 8 := rfl
theorem hmX8_takesAll : mL mX8_takesAll = 2 := rfl
theorem hlX8_takesAll : ll mX8_takesAll = 99 := rfl
theorem hrX8_takesAll : mr mX8_takesAll = none := rfl
theorem hqX8_takesAll : rl mX8_takesAll = 0 := rfl
theorem hnX8_takesAll : mn mX8_takesAll = 0 := rfl
theorem hbX8_fault : mb mX8_fault = cX8_fault := rfl
theorem hoX8_fault : mo mX8_fault = 8 := rfl
theorem hmX8_fault : mL mX8_fault = 1 := rfl
theorem hlX8_fault : ll mX8_fault = 99 := rfl
theorem hrX8_fault : mr mX8_fault = (some .int) := rfl
theorem hqX8_fault : rl mX8_fault = 0 := rfl
theorem hnX8_fault : mn mX8_fault = 0 := rfl
theorem hbX8_told : mb mX8_told = cX8_told := rfl
theorem hoX8_told : mo mX8_told = 8 := rfl
theorem hmX8_told : mL mX8_told = 2 := rfl
theorem hlX8_told : ll mX8_told = 99 := rfl
theorem hrX8_told : mr mX8_told = (some .int) := rfl
theorem hqX8_told : rl mX8_told = 65 := rfl
theorem hnX8_told : mn mX8_told = 1 := rfl
theorem hfX8_told : 1 ≤ rf mX8_told := by decide +kernel
theorem hbX8_housesSo : mb mX8_housesSo = cX8_housesSo := rfl
theorem hoX8_housesSo : mo mX8_housesSo = 8 := rfl
theorem hmX8_housesSo : mL mX8_housesSo = 4 := rfl
theorem hlX8_housesSo : ll mX8_housesSo = 99 := rfl
theorem hrX8_housesSo : mr mX8_housesSo = (some .int) := rfl
theorem hqX8_housesSo : rl mX8_housesSo = 0 := rfl
theorem hnX8_housesSo : mn mX8_housesSo = 1 := rfl
theorem hbX8_debts : mb mX8_debts = cX8_debts := rfl
theorem hoX8_debts : mo mX8_debts = 8 := rfl
theorem hmX8_debts : mL mX8_debts = 3 := rfl
theorem hlX8_debts : ll mX8_debts = 99 := rfl
theorem hrX8_debts : mr mX8_debts = (some .int) := rfl
theorem hqX8_debts : rl mX8_debts = 21 := rfl
theorem hnX8_debts : mn mX8_debts = 0 := rfl
theorem hfX8_debts : 1 ≤ rf mX8_debts := by decide +kernel
theorem hbX8_isHeld : mb mX8_isHeld = cX8_isHeld := rfl
theorem hoX8_isHeld : mo mX8_isHeld = 8 := rfl
theorem hmX8_isHeld : mL mX8_isHeld = 2 := rfl
theorem hlX8_isHeld : ll mX8_isHeld = 99 := rfl
theorem hrX8_isHeld : mr mX8_isHeld = (some .boolean) := rfl
theorem hqX8_isHeld : rl mX8_isHeld = 0 := rfl
theorem hnX8_isHeld : mn mX8_isHeld = 1 := rfl
theorem hbX8_debtOf : mb mX8_debtOf = cX8_debtOf := rfl
theorem hoX8_debtOf : mo mX8_debtOf = 8 := rfl
theorem hmX8_debtOf : mL mX8_debtOf = 2 := rfl
theorem hlX8_debtOf : ll mX8_debtOf = 99 := rfl
theorem hrX8_debtOf : mr mX8_debtOf = (some .int) := rfl
theorem hqX8_debtOf : rl mX8_debtOf = 0 := rfl
theorem hnX8_debtOf : mn mX8_debtOf = 1 := rfl
theorem hbX8_astray : mb mX8_astray = cX8_astray := rfl
theorem hoX8_astray : mo mX8_astray = 8 := rfl
theorem hmX8_astray : mL mX8_astray = 3 := rfl
theorem hlX8_astray : ll mX8_astray = 99 := rfl
theorem hrX8_astray : mr mX8_astray = (some .int) := rfl
theorem hqX8_astray : rl mX8_astray = 22 := rfl
theorem hnX8_astray : mn mX8_astray = 0 := rfl
theorem hfX8_astray : 1 ≤ rf mX8_astray := by decide +kernel
theorem hbX8_holds : mb mX8_holds = cX8_holds := rfl
theorem hoX8_holds : mo mX8_holds = 8 := rfl
theorem hmX8_holds : mL mX8_holds = 3 := rfl
theorem hlX8_holds : ll mX8_holds = 99 := rfl
theorem hrX8_holds : mr mX8_holds = (some .int) := rfl
theorem hqX8_holds : rl mX8_holds = 0 := rfl
theorem hnX8_holds : mn mX8_holds = 1 := rfl
theorem hbX8_gap : mb mX8_gap = cX8_gap := rfl
theorem hoX8_gap : mo mX8_gap = 8 := rfl
theorem hmX8_gap : mL mX8_gap = 3 := rfl
theorem hlX8_gap : ll mX8_gap = 99 := rfl
theorem hrX8_gap : mr mX8_gap = (some .int) := rfl
theorem hqX8_gap : rl mX8_gap = 43 := rfl
theorem hnX8_gap : mn mX8_gap = 0 := rfl
theorem hfX8_gap : 1 ≤ rf mX8_gap := by decide +kernel
theorem hbX8_worst : mb mX8_worst = cX8_worst := rfl
theorem hoX8_worst : mo mX8_worst = 8 := rfl
theorem hmX8_worst : mL mX8_worst = 3 := rfl
theorem hlX8_worst : ll mX8_worst = 99 := rfl
theorem hrX8_worst : mr mX8_worst = (some .int) := rfl
theorem hqX8_worst : rl mX8_worst = 21 := rfl
theorem hnX8_worst : mn mX8_worst = 0 := rfl
theorem hfX8_worst : 1 ≤ rf mX8_worst := by decide +kernel
theorem hbX8_house : mb mX8_house = cX8_house := rfl
theorem hoX8_house : mo mX8_house = 8 := rfl
theorem hmX8_house : mL mX8_house = 3 := rfl
theorem hlX8_house : ll mX8_house = 99 := rfl
theorem hrX8_house : mr mX8_house = (some .int) := rfl
theorem hqX8_house : rl mX8_house = 43 := rfl
theorem hnX8_house : mn mX8_house = 2 := rfl
theorem hfX8_house : 1 ≤ rf mX8_house := by decide +kernel
theorem hbX8_isHouse : mb mX8_isHouse = cX8_isHouse := rfl
theorem hoX8_isHouse : mo mX8_isHouse = 8 := rfl
theorem hmX8_isHouse : mL mX8_isHouse = 2 := rfl
theorem hlX8_isHouse : ll mX8_isHouse = 99 := rfl
theorem hrX8_isHouse : mr mX8_isHouse = (some .boolean) := rfl
theorem hqX8_isHouse : rl mX8_isHouse = 22 := rfl
theorem hnX8_isHouse : mn mX8_isHouse = 1 := rfl
theorem hfX8_isHouse : 1 ≤ rf mX8_isHouse := by decide +kernel
theorem hbX8_gull : mb mX8_gull = cX8_gull := rfl
theorem hoX8_gull : mo mX8_gull = 8 := rfl
theorem hmX8_gull : mL mX8_gull = 3 := rfl
theorem hlX8_gull : ll mX8_gull = 99 := rfl
theorem hrX8_gull : mr mX8_gull = (some .int) := rfl
theorem hqX8_gull : rl mX8_gull = 43 := rfl
theorem hnX8_gull : mn mX8_gull = 2 := rfl
theorem hfX8_gull : 1 ≤ rf mX8_gull := by decide +kernel
theorem hbX8_isGull : mb mX8_isGull = cX8_isGull := rfl
theorem hoX8_isGull : mo mX8_isGull = 8 := rfl
theorem hmX8_isGull : mL mX8_isGull = 2 := rfl
theorem hlX8_isGull : ll mX8_isGull = 99 := rfl
theorem hrX8_isGull : mr mX8_isGull = (some .boolean) := rfl
theorem hqX8_isGull : rl mX8_isGull = 22 := rfl
theorem hnX8_isGull : mn mX8_isGull = 1 := rfl
theorem hfX8_isGull : 1 ≤ rf mX8_isGull := by decide +kernel
theorem hbX8_ahead : mb mX8_ahead = cX8_ahead := rfl
theorem hoX8_ahead : mo mX8_ahead = 8 := rfl
theorem hmX8_ahead : mL mX8_ahead = 2 := rfl
theorem hlX8_ahead : ll mX8_ahead = 99 := rfl
theorem hrX8_ahead : mr mX8_ahead = (some .int) := rfl
theorem hqX8_ahead : rl mX8_ahead = 22 := rfl
theorem hnX8_ahead : mn mX8_ahead = 1 := rfl
theorem hfX8_ahead : 1 ≤ rf mX8_ahead := by decide +kernel
theorem hbX8_isTold : mb mX8_isTold = cX8_isTold := rfl
theorem hoX8_isTold : mo mX8_isTold = 8 := rfl
theorem hmX8_isTold : mL mX8_isTold = 1 := rfl
theorem hlX8_isTold : ll mX8_isTold = 99 := rfl
theorem hrX8_isTold : mr mX8_isTold = (some .boolean) := rfl
theorem hqX8_isTold : rl mX8_isTold = 0 := rfl
theorem hnX8_isTold : mn mX8_isTold = 0 := rfl
theorem hbX8_logged : mb mX8_logged = cX8_logged := rfl
theorem hoX8_logged : mo mX8_logged = 8 := rfl
theorem hmX8_logged : mL mX8_logged = 3 := rfl
theorem hlX8_logged : ll mX8_logged = 99 := rfl
theorem hrX8_logged : mr mX8_logged = (some .int) := rfl
theorem hqX8_logged : rl mX8_logged = 22 := rfl
theorem hnX8_logged : mn mX8_logged = 2 := rfl
theorem hfX8_logged : 1 ≤ rf mX8_logged := by decide +kernel
theorem hbX8_day : mb mX8_day = cX8_day := rfl
theorem hoX8_day : mo mX8_day = 8 := rfl
theorem hmX8_day : mL mX8_day = 3 := rfl
theorem hlX8_day : ll mX8_day = 99 := rfl
theorem hrX8_day : mr mX8_day = (some .int) := rfl
theorem hqX8_day : rl mX8_day = 72 := rfl
theorem hnX8_day : mn mX8_day = 1 := rfl
theorem hfX8_day : 1 ≤ rf mX8_day := by decide +kernel
theorem hbX8_notes : mb mX8_notes = cX8_notes := rfl
theorem hoX8_notes : mo mX8_notes = 8 := rfl
theorem hmX8_notes : mL mX8_notes = 2 := rfl
theorem hlX8_notes : ll mX8_notes = 99 := rfl
theorem hrX8_notes : mr mX8_notes = none := rfl
theorem hqX8_notes : rl mX8_notes = 24 := rfl
theorem hnX8_notes : mn mX8_notes = 0 := rfl
theorem hfX8_notes : 1 ≤ rf mX8_notes := by decide +kernel
theorem hbX8_copies : mb mX8_copies = cX8_copies := rfl
theorem hoX8_copies : mo mX8_copies = 8 := rfl
theorem hmX8_copies : mL mX8_copies = 5 := rfl
theorem hlX8_copies : ll mX8_copies = 99 := rfl
theorem hrX8_copies : mr mX8_copies = none := rfl
theorem hqX8_copies : rl mX8_copies = 0 := rfl
theorem hnX8_copies : mn mX8_copies = 4 := rfl
theorem hbX8_passes : mb mX8_passes = cX8_passes := rfl
theorem hoX8_passes : mo mX8_passes = 8 := rfl
theorem hmX8_passes : mL mX8_passes = 4 := rfl
theorem hlX8_passes : ll mX8_passes = 99 := rfl
theorem hrX8_passes : mr mX8_passes = none := rfl
theorem hqX8_passes : rl mX8_passes = 49 := rfl
theorem hnX8_passes : mn mX8_passes = 1 := rfl
theorem hfX8_passes : 1 ≤ rf mX8_passes := by decide +kernel
theorem hbX8_lesser : mb mX8_lesser = cX8_lesser := rfl
theorem hoX8_lesser : mo mX8_lesser = 8 := rfl
theorem hmX8_lesser : mL mX8_lesser = 2 := rfl
theorem hlX8_lesser : ll mX8_lesser = 99 := rfl
theorem hrX8_lesser : mr mX8_lesser = (some .int) := rfl
theorem hqX8_lesser : rl mX8_lesser = 0 := rfl
theorem hnX8_lesser : mn mX8_lesser = 2 := rfl
theorem hbX8_pays : mb mX8_pays = cX8_pays := rfl
theorem hoX8_pays : mo mX8_pays = 8 := rfl
theorem hmX8_pays : mL mX8_pays = 7 := rfl
theorem hlX8_pays : ll mX8_pays = 99 := rfl
theorem hrX8_pays : mr mX8_pays = none := rfl
theorem hqX8_pays : rl mX8_pays = 23 := rfl
theorem hnX8_pays : mn mX8_pays = 2 := rfl
theorem hfX8_pays : 1 ≤ rf mX8_pays := by decide +kernel
theorem hbX8_cries : mb mX8_cries = cX8_cries := rfl
theorem hoX8_cries : mo mX8_cries = 8 := rfl
theorem hmX8_cries : mL mX8_cries = 4 := rfl
theorem hlX8_cries : ll mX8_cries = 99 := rfl
theorem hrX8_cries : mr mX8_cries = none := rfl
theorem hqX8_cries : rl mX8_cries = 0 := rfl
theorem hnX8_cries : mn mX8_cries = 3 := rfl
theorem hbX8_putsOut : mb mX8_putsOut = cX8_putsOut := rfl
theorem hoX8_putsOut : mo mX8_putsOut = 8 := rfl
theorem hmX8_putsOut : mL mX8_putsOut = 2 := rfl
theorem hlX8_putsOut : ll mX8_putsOut = 99 := rfl
theorem hrX8_putsOut : mr mX8_putsOut = none := rfl
theorem hqX8_putsOut : rl mX8_putsOut = 0 := rfl
theorem hnX8_putsOut : mn mX8_putsOut = 2 := rfl
theorem hbX8_pay : mb mX8_pay = cX8_pay := rfl
theorem hoX8_pay : mo mX8_pay = 8 := rfl
theorem hmX8_pay : mL mX8_pay = 3 := rfl
theorem hlX8_pay : ll mX8_pay = 99 := rfl
theorem hrX8_pay : mr mX8_pay = (some .int) := rfl
theorem hqX8_pay : rl mX8_pay = 45 := rfl
theorem hnX8_pay : mn mX8_pay = 2 := rfl
theorem hfX8_pay : 1 ≤ rf mX8_pay := by decide +kernel
theorem hbX8_canPay : mb mX8_canPay = cX8_canPay := rfl
theorem hoX8_canPay : mo mX8_canPay = 8 := rfl
theorem hmX8_canPay : mL mX8_canPay = 3 := rfl
theorem hlX8_canPay : ll mX8_canPay = 99 := rfl
theorem hrX8_canPay : mr mX8_canPay = (some .boolean) := rfl
theorem hqX8_canPay : rl mX8_canPay = 21 := rfl
theorem hnX8_canPay : mn mX8_canPay = 2 := rfl
theorem hfX8_canPay : 1 ≤ rf mX8_canPay := by decide +kernel
theorem hbX8_paysBy : mb mX8_paysBy = cX8_paysBy := rfl
theorem hoX8_paysBy : mo mX8_paysBy = 8 := rfl
theorem hmX8_paysBy : mL mX8_paysBy = 3 := rfl
theorem hlX8_paysBy : ll mX8_paysBy = 99 := rfl
theorem hrX8_paysBy : mr mX8_paysBy = none := rfl
theorem hqX8_paysBy : rl mX8_paysBy = 0 := rfl
theorem hnX8_paysBy : mn mX8_paysBy = 2 := rfl
theorem hbX8_bread : mb mX8_bread = cX8_bread := rfl
theorem hoX8_bread : mo mX8_bread = 8 := rfl
theorem hmX8_bread : mL mX8_bread = 3 := rfl
theorem hlX8_bread : ll mX8_bread = 99 := rfl
theorem hrX8_bread : mr mX8_bread = (some .int) := rfl
theorem hqX8_bread : rl mX8_bread = 45 := rfl
theorem hnX8_bread : mn mX8_bread = 2 := rfl
theorem hfX8_bread : 1 ≤ rf mX8_bread := by decide +kernel
theorem hbX8_isByBread : mb mX8_isByBread = cX8_isByBread := rfl
theorem hoX8_isByBread : mo mX8_isByBread = 8 := rfl
theorem hmX8_isByBread : mL mX8_isByBread = 2 := rfl
theorem hlX8_isByBread : ll mX8_isByBread = 99 := rfl
theorem hrX8_isByBread : mr mX8_isByBread = (some .boolean) := rfl
theorem hqX8_isByBread : rl mX8_isByBread = 21 := rfl
theorem hnX8_isByBread : mn mX8_isByBread = 1 := rfl
theorem hfX8_isByBread : 1 ≤ rf mX8_isByBread := by decide +kernel
theorem hbX8_stone : mb mX8_stone = cX8_stone := rfl
theorem hoX8_stone : mo mX8_stone = 8 := rfl
theorem hmX8_stone : mL mX8_stone = 2 := rfl
theorem hlX8_stone : ll mX8_stone = 99 := rfl
theorem hrX8_stone : mr mX8_stone = (some .int) := rfl
theorem hqX8_stone : rl mX8_stone = 45 := rfl
theorem hnX8_stone : mn mX8_stone = 1 := rfl
theorem hfX8_stone : 1 ≤ rf mX8_stone := by decide +kernel
theorem hbX8_lend : mb mX8_lend = cX8_lend := rfl
theorem hoX8_lend : mo mX8_lend = 8 := rfl
theorem hmX8_lend : mL mX8_lend = 2 := rfl
theorem hlX8_lend : ll mX8_lend = 99 := rfl
theorem hrX8_lend : mr mX8_lend = (some .int) := rfl
theorem hqX8_lend : rl mX8_lend = 45 := rfl
theorem hnX8_lend : mn mX8_lend = 1 := rfl
theorem hfX8_lend : 1 ≤ rf mX8_lend := by decide +kernel
theorem hbX8_swap : mb mX8_swap = cX8_swap := rfl
theorem hoX8_swap : mo mX8_swap = 8 := rfl
theorem hmX8_swap : mL mX8_swap = 3 := rfl
theorem hlX8_swap : ll mX8_swap = 99 := rfl
theorem hrX8_swap : mr mX8_swap = (some .int) := rfl
theorem hqX8_swap : rl mX8_swap = 45 := rfl
theorem hnX8_swap : mn mX8_swap = 2 := rfl
theorem hfX8_swap : 1 ≤ rf mX8_swap := by decide +kernel
theorem hbX8_canSwap : mb mX8_canSwap = cX8_canSwap := rfl
theorem hoX8_canSwap : mo mX8_canSwap = 8 := rfl
theorem hmX8_canSwap : mL mX8_canSwap = 3 := rfl
theorem hlX8_canSwap : ll mX8_canSwap = 99 := rfl
theorem hrX8_canSwap : mr mX8_canSwap = (some .boolean) := rfl
theorem hqX8_canSwap : rl mX8_canSwap = 0 := rfl
theorem hnX8_canSwap : mn mX8_canSwap = 3 := rfl
theorem hbX8_swaps : mb mX8_swaps = cX8_swaps := rfl
theorem hoX8_swaps : mo mX8_swaps = 8 := rfl
theorem hmX8_swaps : mL mX8_swaps = 4 := rfl
theorem hlX8_swaps : ll mX8_swaps = 99 := rfl
theorem hrX8_swaps : mr mX8_swaps = none := rfl
theorem hqX8_swaps : rl mX8_swaps = 0 := rfl
theorem hnX8_swaps : mn mX8_swaps = 3 := rfl
theorem hbX8_drift : mb mX8_drift = cX8_drift := rfl
theorem hoX8_drift : mo mX8_drift = 8 := rfl
theorem hmX8_drift : mL mX8_drift = 3 := rfl
theorem hlX8_drift : ll mX8_drift = 99 := rfl
theorem hrX8_drift : mr mX8_drift = (some .int) := rfl
theorem hqX8_drift : rl mX8_drift = 72 := rfl
theorem hnX8_drift : mn mX8_drift = 1 := rfl
theorem hfX8_drift : 1 ≤ rf mX8_drift := by decide +kernel
theorem hbX8_draws : mb mX8_draws = cX8_draws := rfl
theorem hoX8_draws : mo mX8_draws = 8 := rfl
theorem hmX8_draws : mL mX8_draws = 4 := rfl
theorem hlX8_draws : ll mX8_draws = 99 := rfl
theorem hrX8_draws : mr mX8_draws = none := rfl
theorem hqX8_draws : rl mX8_draws = 43 := rfl
theorem hnX8_draws : mn mX8_draws = 0 := rfl
theorem hfX8_draws : 1 ≤ rf mX8_draws := by decide +kernel
theorem hbX8_draw : mb mX8_draw = cX8_draw := rfl
theorem hoX8_draw : mo mX8_draw = 8 := rfl
theorem hmX8_draw : mL mX8_draw = 2 := rfl
theorem hlX8_draw : ll mX8_draw = 99 := rfl
theorem hrX8_draw : mr mX8_draw = (some .int) := rfl
theorem hqX8_draw : rl mX8_draw = 0 := rfl
theorem hnX8_draw : mn mX8_draw = 1 := rfl
theorem hbX8_undo : mb mX8_undo = cX8_undo := rfl
theorem hoX8_undo : mo mX8_undo = 8 := rfl
theorem hmX8_undo : mL mX8_undo = 2 := rfl
theorem hlX8_undo : ll mX8_undo = 99 := rfl
theorem hrX8_undo : mr mX8_undo = (some .int) := rfl
theorem hqX8_undo : rl mX8_undo = 24 := rfl
theorem hnX8_undo : mn mX8_undo = 1 := rfl
theorem hfX8_undo : 1 ≤ rf mX8_undo := by decide +kernel
theorem hbX8_owes : mb mX8_owes = cX8_owes := rfl
theorem hoX8_owes : mo mX8_owes = 8 := rfl
theorem hmX8_owes : mL mX8_owes = 3 := rfl
theorem hlX8_owes : ll mX8_owes = 99 := rfl
theorem hrX8_owes : mr mX8_owes = (some .int) := rfl
theorem hqX8_owes : rl mX8_owes = 100 := rfl
theorem hnX8_owes : mn mX8_owes = 2 := rfl
theorem hfX8_owes : 1 ≤ rf mX8_owes := by decide +kernel
theorem hbX8_goesOn : mb mX8_goesOn = cX8_goesOn := rfl
theorem hoX8_goesOn : mo mX8_goesOn = 8 := rfl
theorem hmX8_goesOn : mL mX8_goesOn = 9 := rfl
theorem hlX8_goesOn : ll mX8_goesOn = 99 := rfl
theorem hrX8_goesOn : mr mX8_goesOn = none := rfl
theorem hqX8_goesOn : rl mX8_goesOn = 72 := rfl
theorem hnX8_goesOn : mn mX8_goesOn = 1 := rfl
theorem hfX8_goesOn : 1 ≤ rf mX8_goesOn := by decide +kernel
theorem hbX8_has : mb mX8_has = cX8_has := rfl
theorem hoX8_has : mo mX8_has = 8 := rfl
theorem hmX8_has : mL mX8_has = 2 := rfl
theorem hlX8_has : ll mX8_has = 99 := rfl
theorem hrX8_has : mr mX8_has = (some .boolean) := rfl
theorem hqX8_has : rl mX8_has = 0 := rfl
theorem hnX8_has : mn mX8_has = 2 := rfl
theorem hbX8_firstOut : mb mX8_firstOut = cX8_firstOut := rfl
theorem hoX8_firstOut : mo mX8_firstOut = 8 := rfl
theorem hmX8_firstOut : mL mX8_firstOut = 2 := rfl
theorem hlX8_firstOut : ll mX8_firstOut = 99 := rfl
theorem hrX8_firstOut : mr mX8_firstOut = (some .int) := rfl
theorem hqX8_firstOut : rl mX8_firstOut = 100 := rfl
theorem hnX8_firstOut : mn mX8_firstOut = 1 := rfl
theorem hfX8_firstOut : 1 ≤ rf mX8_firstOut := by decide +kernel
theorem hbX8_outBy : mb mX8_outBy = cX8_outBy := rfl
theorem hoX8_outBy : mo mX8_outBy = 8 := rfl
theorem hmX8_outBy : mL mX8_outBy = 2 := rfl
theorem hlX8_outBy : ll mX8_outBy = 99 := rfl
theorem hrX8_outBy : mr mX8_outBy = (some .int) := rfl
theorem hqX8_outBy : rl mX8_outBy = 100 := rfl
theorem hnX8_outBy : mn mX8_outBy = 1 := rfl
theorem hfX8_outBy : 1 ≤ rf mX8_outBy := by decide +kernel
theorem hbX8_redeemedBy : mb mX8_redeemedBy = cX8_redeemedBy := rfl
theorem hoX8_redeemedBy : mo mX8_redeemedBy = 8 := rfl
theorem hmX8_redeemedBy : mL mX8_redeemedBy = 2 := rfl
theorem hlX8_redeemedBy : ll mX8_redeemedBy = 99 := rfl
theorem hrX8_redeemedBy : mr mX8_redeemedBy = (some .int) := rfl
theorem hqX8_redeemedBy : rl mX8_redeemedBy = 100 := rfl
theorem hnX8_redeemedBy : mn mX8_redeemedBy = 1 := rfl
theorem hfX8_redeemedBy : 1 ≤ rf mX8_redeemedBy := by decide +kernel
theorem hbX8_loan : mb mX8_loan = cX8_loan := rfl
theorem hoX8_loan : mo mX8_loan = 8 := rfl
theorem hmX8_loan : mL mX8_loan = 3 := rfl
theorem hlX8_loan : ll mX8_loan = 99 := rfl
theorem hrX8_loan : mr mX8_loan = (some .int) := rfl
theorem hqX8_loan : rl mX8_loan = 100 := rfl
theorem hnX8_loan : mn mX8_loan = 1 := rfl
theorem hfX8_loan : 1 ≤ rf mX8_loan := by decide +kernel
theorem hbX8_clear : mb mX8_clear = cX8_clear := rfl
theorem hoX8_clear : mo mX8_clear = 8 := rfl
theorem hmX8_clear : mL mX8_clear = 7 := rfl
theorem hlX8_clear : ll mX8_clear = 99 := rfl
theorem hrX8_clear : mr mX8_clear = (some .int) := rfl
theorem hqX8_clear : rl mX8_clear = 22 := rfl
theorem hnX8_clear : mn mX8_clear = 1 := rfl
theorem hfX8_clear : 1 ≤ rf mX8_clear := by decide +kernel
theorem hbX8_ones : mb mX8_ones = cX8_ones := rfl
theorem hoX8_ones : mo mX8_ones = 8 := rfl
theorem hmX8_ones : mL mX8_ones = 3 := rfl
theorem hlX8_ones : ll mX8_ones = 99 := rfl
theorem hrX8_ones : mr mX8_ones = (some .int) := rfl
theorem hqX8_ones : rl mX8_ones = 0 := rfl
theorem hnX8_ones : mn mX8_ones = 1 := rfl
theorem hbX8_bestSwap : mb mX8_bestSwap = cX8_bestSwap := rfl
theorem hoX8_bestSwap : mo mX8_bestSwap = 8 := rfl
theorem hmX8_bestSwap : mL mX8_bestSwap = 7 := rfl
theorem hlX8_bestSwap : ll mX8_bestSwap = 99 := rfl
theorem hrX8_bestSwap : mr mX8_bestSwap = (some .int) := rfl
theorem hqX8_bestSwap : rl mX8_bestSwap = 100 := rfl
theorem hnX8_bestSwap : mn mX8_bestSwap = 2 := rfl
theorem hfX8_bestSwap : 1 ≤ rf mX8_bestSwap := by decide +kernel
theorem hbX8_home : mb mX8_home = cX8_home := rfl
theorem hoX8_home : mo mX8_home = 8 := rfl
theorem hmX8_home : mL mX8_home = 4 := rfl
theorem hlX8_home : ll mX8_home = 99 := rfl
theorem hrX8_home : mr mX8_home = (some .int) := rfl
theorem hqX8_home : rl mX8_home = 43 := rfl
theorem hnX8_home : mn mX8_home = 1 := rfl
theorem hfX8_home : 1 ≤ rf mX8_home := by decide +kernel
theorem hbX8_mostBread : mb mX8_mostBread = cX8_mostBread := rfl
theorem hoX8_mostBread : mo mX8_mostBread = 8 := rfl
theorem hmX8_mostBread : mL mX8_mostBread = 2 := rfl
theorem hlX8_mostBread : ll mX8_mostBread = 99 := rfl
theorem hrX8_mostBread : mr mX8_mostBread = (some .int) := rfl
theorem hqX8_mostBread : rl mX8_mostBread = 43 := rfl
theorem hnX8_mostBread : mn mX8_mostBread = 1 := rfl
theorem hfX8_mostBread : 1 ≤ rf mX8_mostBread := by decide +kernel
theorem hbX8_sure : mb mX8_sure = cX8_sure := rfl
theorem hoX8_sure : mo mX8_sure = 8 := rfl
theorem hmX8_sure : mL mX8_sure = 6 := rfl
theorem hlX8_sure : ll mX8_sure = 3 := rfl
theorem hrX8_sure : mr mX8_sure = (some .int) := rfl
theorem hqX8_sure : rl mX8_sure = 22 := rfl
theorem hnX8_sure : mn mX8_sure = 2 := rfl
theorem hfX8_sure : 1 ≤ rf mX8_sure := by decide +kernel
theorem hbX8_hear : mb mX8_hear = cX8_hear := rfl
theorem hoX8_hear : mo mX8_hear = 8 := rfl
theorem hmX8_hear : mL mX8_hear = 4 := rfl
theorem hlX8_hear : ll mX8_hear = 99 := rfl
theorem hrX8_hear : mr mX8_hear = (some .int) := rfl
theorem hqX8_hear : rl mX8_hear = 43 := rfl
theorem hnX8_hear : mn mX8_hear = 3 := rfl
theorem hfX8_hear : 1 ≤ rf mX8_hear := by decide +kernel
theorem hbX8_gales : mb mX8_gales = cX8_gales := rfl
theorem hoX8_gales : mo mX8_gales = 8 := rfl
theorem hmX8_gales : mL mX8_gales = 2 := rfl
theorem hlX8_gales : ll mX8_gales = 99 := rfl
theorem hrX8_gales : mr mX8_gales = (some .int) := rfl
theorem hqX8_gales : rl mX8_gales = 93 := rfl
theorem hnX8_gales : mn mX8_gales = 1 := rfl
theorem hfX8_gales : 1 ≤ rf mX8_gales := by decide +kernel
theorem hbX8_finds : mb mX8_finds = cX8_finds := rfl
theorem hoX8_finds : mo mX8_finds = 8 := rfl
theorem hmX8_finds : mL mX8_finds = 5 := rfl
theorem hlX8_finds : ll mX8_finds = 99 := rfl
theorem hrX8_finds : mr mX8_finds = none := rfl
theorem hqX8_finds : rl mX8_finds = 69 := rfl
theorem hnX8_finds : mn mX8_finds = 0 := rfl
theorem hfX8_finds : 1 ≤ rf mX8_finds := by decide +kernel
theorem hbX8_isHeard : mb mX8_isHeard = cX8_isHeard := rfl
theorem hoX8_isHeard : mo mX8_isHeard = 8 := rfl
theorem hmX8_isHeard : mL mX8_isHeard = 4 := rfl
theorem hlX8_isHeard : ll mX8_isHeard = 99 := rfl
theorem hrX8_isHeard : mr mX8_isHeard = (some .boolean) := rfl
theorem hqX8_isHeard : rl mX8_isHeard = 46 := rfl
theorem hnX8_isHeard : mn mX8_isHeard = 1 := rfl
theorem hfX8_isHeard : 1 ≤ rf mX8_isHeard := by decide +kernel
theorem hbX8_wasAt : mb mX8_wasAt = cX8_wasAt := rfl
theorem hoX8_wasAt : mo mX8_wasAt = 8 := rfl
theorem hmX8_wasAt : mL mX8_wasAt = 5 := rfl
theorem hlX8_wasAt : ll mX8_wasAt = 99 := rfl
theorem hrX8_wasAt : mr mX8_wasAt = (some .int) := rfl
theorem hqX8_wasAt : rl mX8_wasAt = 22 := rfl
theorem hnX8_wasAt : mn mX8_wasAt = 2 := rfl
theorem hfX8_wasAt : 1 ≤ rf mX8_wasAt := by decide +kernel
theorem hbX8_listen : mb mX8_listen = cX8_listen := rfl
theorem hoX8_listen : mo mX8_listen = 8 := rfl
theorem hmX8_listen : mL mX8_listen = 5 := rfl
theorem hlX8_listen : ll mX8_listen = 99 := rfl
theorem hrX8_listen : mr mX8_listen = (some .int) := rfl
theorem hqX8_listen : rl mX8_listen = 94 := rfl
theorem hnX8_listen : mn mX8_listen = 0 := rfl
theorem hfX8_listen : 1 ≤ rf mX8_listen := by decide +kernel
theorem hbX8_alike : mb mX8_alike = cX8_alike := rfl
theorem hoX8_alike : mo mX8_alike = 8 := rfl
theorem hmX8_alike : mL mX8_alike = 6 := rfl
theorem hlX8_alike : ll mX8_alike = 99 := rfl
theorem hrX8_alike : mr mX8_alike = (some .int) := rfl
theorem hqX8_alike : rl mX8_alike = 69 := rfl
theorem hnX8_alike : mn mX8_alike = 1 := rfl
theorem hfX8_alike : 1 ≤ rf mX8_alike := by decide +kernel
theorem hbX8_whoAt : mb mX8_whoAt = cX8_whoAt := rfl
theorem hoX8_whoAt : mo mX8_whoAt = 8 := rfl
theorem hmX8_whoAt : mL mX8_whoAt = 4 := rfl
theorem hlX8_whoAt : ll mX8_whoAt = 99 := rfl
theorem hrX8_whoAt : mr mX8_whoAt = (some .int) := rfl
theorem hqX8_whoAt : rl mX8_whoAt = 46 := rfl
theorem hnX8_whoAt : mn mX8_whoAt = 2 := rfl
theorem hfX8_whoAt : 1 ≤ rf mX8_whoAt := by decide +kernel
theorem hbX8_write : mb mX8_write = cX8_write := rfl
theorem hoX8_write : mo mX8_write = 8 := rfl
theorem hmX8_write : mL mX8_write = 3 := rfl
theorem hlX8_write : ll mX8_write = 99 := rfl
theorem hrX8_write : mr mX8_write = (some .int) := rfl
theorem hqX8_write : rl mX8_write = 43 := rfl
theorem hnX8_write : mn mX8_write = 2 := rfl
theorem hfX8_write : 1 ≤ rf mX8_write := by decide +kernel
theorem hbX8_judge : mb mX8_judge = cX8_judge := rfl
theorem hoX8_judge : mo mX8_judge = 8 := rfl
theorem hmX8_judge : mL mX8_judge = 2 := rfl
theorem hlX8_judge : ll mX8_judge = 99 := rfl
theorem hrX8_judge : mr mX8_judge = (some .int) := rfl
theorem hqX8_judge : rl mX8_judge = 21 := rfl
theorem hnX8_judge : mn mX8_judge = 0 := rfl
theorem hfX8_judge : 1 ≤ rf mX8_judge := by decide +kernel
theorem hbX8_tear : mb mX8_tear = cX8_tear := rfl
theorem hoX8_tear : mo mX8_tear = 8 := rfl
theorem hmX8_tear : mL mX8_tear = 2 := rfl
theorem hlX8_tear : ll mX8_tear = 99 := rfl
theorem hrX8_tear : mr mX8_tear = (some .int) := rfl
theorem hqX8_tear : rl mX8_tear = 0 := rfl
theorem hnX8_tear : mn mX8_tear = 0 := rfl
theorem hbX8_seed : mb mX8_seed = cX8_seed := rfl
theorem hoX8_seed : mo mX8_seed = 8 := rfl
theorem hmX8_seed : mL mX8_seed = 3 := rfl
theorem hlX8_seed : ll mX8_seed = 99 := rfl
theorem hrX8_seed : mr mX8_seed = (some .int) := rfl
theorem hqX8_seed : rl mX8_seed = 0 := rfl
theorem hnX8_seed : mn mX8_seed = 1 := rfl
theorem hbX8_keep : mb mX8_keep = cX8_keep := rfl
theorem hoX8_keep : mo mX8_keep = 8 := rfl
theorem hmX8_keep : mL mX8_keep = 2 := rfl
theorem hlX8_keep : ll mX8_keep = 99 := rfl
theorem hrX8_keep : mr mX8_keep = (some .int) := rfl
theorem hqX8_keep : rl mX8_keep = 24 := rfl
theorem hnX8_keep : mn mX8_keep = 1 := rfl
theorem hfX8_keep : 1 ≤ rf mX8_keep := by decide +kernel
theorem hbX8_goBack : mb mX8_goBack = cX8_goBack := rfl
theorem hoX8_goBack : mo mX8_goBack = 8 := rfl
theorem hmX8_goBack : mL mX8_goBack = 2 := rfl
theorem hlX8_goBack : ll mX8_goBack = 99 := rfl
theorem hrX8_goBack : mr mX8_goBack = (some .int) := rfl
theorem hqX8_goBack : rl mX8_goBack = 24 := rfl
theorem hnX8_goBack : mn mX8_goBack = 1 := rfl
theorem hfX8_goBack : 1 ≤ rf mX8_goBack := by decide +kernel
