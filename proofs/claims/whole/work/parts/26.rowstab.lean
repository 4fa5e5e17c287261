/-! the tables, a row each, by program -/
theorem fd_0_9 : rt_fd 0 9 = some (0, 9, 0, 0, 0, 188) := by decide +kernel
theorem fd_0_15 : rt_fd 0 15 = some (0, 15, 0, 7, 0, 195) := by decide +kernel
theorem fd_0_19 : rt_fd 0 19 = some (0, 19, 0, 9, 0, 197) := by decide +kernel
theorem fd_0_22 : rt_fd 0 22 = some (0, 22, 0, 4, 0, 192) := by decide +kernel
theorem fd_0_25 : rt_fd 0 25 = some (0, 25, 0, 5, 0, 193) := by decide +kernel
theorem fd_0_28 : rt_fd 0 28 = some (0, 28, 0, 6, 0, 194) := by decide +kernel
theorem fd_0_31 : rt_fd 0 31 = some (0, 31, 0, 8, 0, 196) := by decide +kernel
theorem fd_0_34 : rt_fd 0 34 = some (0, 34, 0, 1, 0, 189) := by decide +kernel
theorem fd_0_46 : rt_fd 0 46 = some (0, 46, 0, 3, 0, 191) := by decide +kernel
theorem fd_0_49 : rt_fd 0 49 = some (0, 49, 0, 2, 0, 190) := by decide +kernel
theorem fd_1_9 : rt_fd 1 9 = some (1, 9, 1, 0, 0, 231) := by decide +kernel
theorem fd_1_15 : rt_fd 1 15 = some (1, 15, 1, 1, 0, 232) := by decide +kernel
theorem fd_1_18 : rt_fd 1 18 = some (1, 18, 1, 2, 0, 233) := by decide +kernel
theorem fd_1_21 : rt_fd 1 21 = some (1, 21, 1, 3, 0, 234) := by decide +kernel
theorem fd_1_24 : rt_fd 1 24 = some (1, 24, 1, 4, 0, 235) := by decide +kernel
theorem fd_1_28 : rt_fd 1 28 = some (1, 28, 1, 5, 0, 236) := by decide +kernel
theorem fd_2_9 : rt_fd 2 9 = some (2, 9, 2, 0, 0, 256) := by decide +kernel
theorem fd_2_15 : rt_fd 2 15 = some (2, 15, 2, 1, 0, 257) := by decide +kernel
theorem fd_2_18 : rt_fd 2 18 = some (2, 18, 2, 2, 0, 258) := by decide +kernel
theorem fd_2_22 : rt_fd 2 22 = some (2, 22, 2, 3, 0, 259) := by decide +kernel
theorem fd_3_9 : rt_fd 3 9 = some (3, 9, 3, 0, 0, 116) := by decide +kernel
theorem fd_3_15 : rt_fd 3 15 = some (3, 15, 3, 1, 0, 117) := by decide +kernel
theorem fd_3_18 : rt_fd 3 18 = some (3, 18, 3, 2, 0, 118) := by decide +kernel
theorem fd_3_21 : rt_fd 3 21 = some (3, 21, 3, 3, 0, 119) := by decide +kernel
theorem fd_3_24 : rt_fd 3 24 = some (3, 24, 3, 4, 0, 120) := by decide +kernel
theorem fd_3_27 : rt_fd 3 27 = some (3, 27, 3, 7, 0, 123) := by decide +kernel
theorem fd_3_31 : rt_fd 3 31 = some (3, 31, 3, 5, 0, 121) := by decide +kernel
theorem fd_3_34 : rt_fd 3 34 = some (3, 34, 3, 6, 0, 122) := by decide +kernel
theorem fd_4_12 : rt_fd 4 12 = some (4, 12, 4, 0, 0, 269) := by decide +kernel
theorem fd_4_21 : rt_fd 4 21 = some (4, 21, 4, 1, 0, 273) := by decide +kernel
theorem fd_4_25 : rt_fd 4 25 = some (4, 25, 4, 2, 0, 277) := by decide +kernel
theorem fd_4_29 : rt_fd 4 29 = some (4, 29, 4, 8, 0, 283) := by decide +kernel
theorem fd_4_37 : rt_fd 4 37 = some (4, 37, 4, 4, 0, 279) := by decide +kernel
theorem fd_4_41 : rt_fd 4 41 = some (4, 41, 4, 6, 0, 281) := by decide +kernel
theorem fd_4_44 : rt_fd 4 44 = some (4, 44, 4, 7, 0, 282) := by decide +kernel
theorem fd_4_47 : rt_fd 4 47 = some (4, 47, 4, 3, 0, 278) := by decide +kernel
theorem fd_4_85 : rt_fd 4 85 = some (4, 85, 4, 5, 0, 280) := by decide +kernel
theorem fd_5_9 : rt_fd 5 9 = some (5, 9, 5, 3, 0, 312) := by decide +kernel
theorem fd_5_15 : rt_fd 5 15 = some (5, 15, 5, 4, 0, 313) := by decide +kernel
theorem fd_5_18 : rt_fd 5 18 = some (5, 18, 5, 5, 0, 314) := by decide +kernel
theorem fd_5_21 : rt_fd 5 21 = some (5, 21, 5, 0, 0, 309) := by decide +kernel
theorem fd_5_25 : rt_fd 5 25 = some (5, 25, 5, 1, 0, 310) := by decide +kernel
theorem fd_5_29 : rt_fd 5 29 = some (5, 29, 5, 2, 0, 311) := by decide +kernel
theorem fd_5_33 : rt_fd 5 33 = some (5, 33, 5, 6, 0, 315) := by decide +kernel
theorem fd_5_37 : rt_fd 5 37 = some (5, 37, 5, 7, 0, 316) := by decide +kernel
theorem fd_5_40 : rt_fd 5 40 = some (5, 40, 5, 8, 0, 317) := by decide +kernel
theorem fd_5_43 : rt_fd 5 43 = some (5, 43, 5, 9, 0, 318) := by decide +kernel
theorem fd_5_49 : rt_fd 5 49 = some (5, 49, 4, 0, 1, 271) := by decide +kernel
theorem fd_5_69 : rt_fd 5 69 = some (5, 69, 4, 1, 1, 275) := by decide +kernel
theorem fd_6_9 : rt_fd 6 9 = some (6, 9, 6, 0, 0, 346) := by decide +kernel
theorem fd_6_15 : rt_fd 6 15 = some (6, 15, 6, 1, 0, 347) := by decide +kernel
theorem fd_7_9 : rt_fd 7 9 = some (7, 9, 7, 0, 0, 148) := by decide +kernel
theorem fd_7_15 : rt_fd 7 15 = some (7, 15, 7, 1, 0, 149) := by decide +kernel
theorem fd_8_9 : rt_fd 8 9 = some (8, 9, 8, 0, 0, 163) := by decide +kernel
theorem fd_8_15 : rt_fd 8 15 = some (8, 15, 8, 1, 0, 164) := by decide +kernel
theorem fd_8_20 : rt_fd 8 20 = some (8, 20, 8, 2, 0, 165) := by decide +kernel
theorem fd_8_24 : rt_fd 8 24 = some (8, 24, 8, 3, 0, 166) := by decide +kernel
theorem fd_8_27 : rt_fd 8 27 = some (8, 27, 8, 4, 0, 167) := by decide +kernel
theorem fd_8_30 : rt_fd 8 30 = some (8, 30, 8, 5, 0, 168) := by decide +kernel
theorem fd_8_44 : rt_fd 8 44 = some (8, 44, 4, 0, 1, 270) := by decide +kernel
theorem fd_8_52 : rt_fd 8 52 = some (8, 52, 4, 1, 1, 274) := by decide +kernel
theorem fd_9_12 : rt_fd 9 12 = some (9, 12, 9, 0, 0, 353) := by decide +kernel
theorem fd_9_19 : rt_fd 9 19 = some (9, 19, 9, 1, 0, 354) := by decide +kernel
theorem fd_9_26 : rt_fd 9 26 = some (9, 26, 9, 2, 0, 355) := by decide +kernel
theorem fd_9_33 : rt_fd 9 33 = some (9, 33, 9, 3, 0, 356) := by decide +kernel
theorem fd_9_40 : rt_fd 9 40 = some (9, 40, 9, 4, 0, 357) := by decide +kernel
theorem fd_9_49 : rt_fd 9 49 = some (9, 49, 9, 5, 0, 358) := by decide +kernel
theorem fd_9_56 : rt_fd 9 56 = some (9, 56, 9, 6, 0, 359) := by decide +kernel
theorem fd_9_110 : rt_fd 9 110 = some (9, 110, 4, 0, 1, 272) := by decide +kernel
theorem fd_9_119 : rt_fd 9 119 = some (9, 119, 4, 1, 1, 276) := by decide +kernel
theorem fd_10_7 : rt_fd 10 7 = some (10, 7, 10, 2, 0, 1110) := by decide +kernel
theorem fd_10_13 : rt_fd 10 13 = some (10, 13, 10, 3, 0, 1111) := by decide +kernel
theorem fd_10_16 : rt_fd 10 16 = some (10, 16, 10, 4, 0, 1112) := by decide +kernel
theorem fd_10_19 : rt_fd 10 19 = some (10, 19, 10, 5, 0, 1113) := by decide +kernel
theorem fd_10_22 : rt_fd 10 22 = some (10, 22, 10, 6, 0, 1114) := by decide +kernel
theorem fd_10_25 : rt_fd 10 25 = some (10, 25, 10, 7, 0, 1115) := by decide +kernel
theorem fd_10_28 : rt_fd 10 28 = some (10, 28, 10, 8, 0, 1116) := by decide +kernel
theorem fd_10_31 : rt_fd 10 31 = some (10, 31, 10, 9, 0, 1117) := by decide +kernel
theorem fd_10_34 : rt_fd 10 34 = some (10, 34, 10, 10, 0, 1118) := by decide +kernel
theorem fd_10_37 : rt_fd 10 37 = some (10, 37, 10, 11, 0, 1119) := by decide +kernel
theorem fd_10_40 : rt_fd 10 40 = some (10, 40, 10, 12, 0, 1120) := by decide +kernel
theorem fd_10_44 : rt_fd 10 44 = some (10, 44, 10, 19, 0, 1127) := by decide +kernel
theorem fd_10_48 : rt_fd 10 48 = some (10, 48, 10, 20, 0, 1128) := by decide +kernel
theorem fd_10_51 : rt_fd 10 51 = some (10, 51, 10, 23, 0, 1131) := by decide +kernel
theorem fd_10_54 : rt_fd 10 54 = some (10, 54, 10, 24, 0, 1132) := by decide +kernel
theorem fd_10_57 : rt_fd 10 57 = some (10, 57, 10, 25, 0, 1133) := by decide +kernel
theorem fd_10_60 : rt_fd 10 60 = some (10, 60, 10, 26, 0, 1134) := by decide +kernel
theorem fd_10_63 : rt_fd 10 63 = some (10, 63, 10, 27, 0, 1135) := by decide +kernel
theorem fd_10_66 : rt_fd 10 66 = some (10, 66, 10, 28, 0, 1136) := by decide +kernel
theorem fd_10_69 : rt_fd 10 69 = some (10, 69, 10, 29, 0, 1137) := by decide +kernel
theorem fd_10_72 : rt_fd 10 72 = some (10, 72, 10, 30, 0, 1138) := by decide +kernel
theorem fd_10_75 : rt_fd 10 75 = some (10, 75, 10, 39, 0, 1147) := by decide +kernel
theorem fd_10_78 : rt_fd 10 78 = some (10, 78, 10, 40, 0, 1148) := by decide +kernel
theorem fd_10_81 : rt_fd 10 81 = some (10, 81, 10, 41, 0, 1149) := by decide +kernel
theorem fd_10_84 : rt_fd 10 84 = some (10, 84, 10, 42, 0, 1150) := by decide +kernel
theorem fd_10_87 : rt_fd 10 87 = some (10, 87, 10, 43, 0, 1151) := by decide +kernel
theorem fd_10_90 : rt_fd 10 90 = some (10, 90, 10, 44, 0, 1152) := by decide +kernel
theorem fd_10_94 : rt_fd 10 94 = some (10, 94, 10, 45, 0, 1153) := by decide +kernel
theorem fd_10_97 : rt_fd 10 97 = some (10, 97, 10, 48, 0, 1156) := by decide +kernel
theorem fd_10_100 : rt_fd 10 100 = some (10, 100, 10, 49, 0, 1157) := by decide +kernel
theorem fd_10_103 : rt_fd 10 103 = some (10, 103, 10, 50, 0, 1158) := by decide +kernel
theorem fd_10_106 : rt_fd 10 106 = some (10, 106, 10, 56, 0, 1164) := by decide +kernel
theorem fd_10_109 : rt_fd 10 109 = some (10, 109, 10, 57, 0, 1165) := by decide +kernel
theorem fd_10_112 : rt_fd 10 112 = some (10, 112, 10, 58, 0, 1166) := by decide +kernel
theorem fd_10_115 : rt_fd 10 115 = some (10, 115, 10, 59, 0, 1167) := by decide +kernel
theorem fd_10_118 : rt_fd 10 118 = some (10, 118, 10, 66, 0, 1174) := by decide +kernel
theorem fd_10_121 : rt_fd 10 121 = some (10, 121, 10, 67, 0, 1175) := by decide +kernel
theorem fd_10_180 : rt_fd 10 180 = some (10, 180, 10, 46, 0, 1154) := by decide +kernel
theorem fd_10_184 : rt_fd 10 184 = some (10, 184, 10, 0, 0, 1108) := by decide +kernel
theorem fd_10_203 : rt_fd 10 203 = some (10, 203, 10, 1, 0, 1109) := by decide +kernel
theorem fd_10_220 : rt_fd 10 220 = some (10, 220, 10, 13, 0, 1121) := by decide +kernel
theorem fd_10_227 : rt_fd 10 227 = some (10, 227, 10, 15, 0, 1123) := by decide +kernel
theorem fd_10_230 : rt_fd 10 230 = some (10, 230, 10, 14, 0, 1122) := by decide +kernel
theorem fd_10_233 : rt_fd 10 233 = some (10, 233, 10, 16, 0, 1124) := by decide +kernel
theorem fd_10_236 : rt_fd 10 236 = some (10, 236, 10, 17, 0, 1125) := by decide +kernel
theorem fd_10_239 : rt_fd 10 239 = some (10, 239, 10, 21, 0, 1129) := by decide +kernel
theorem fd_10_243 : rt_fd 10 243 = some (10, 243, 10, 18, 0, 1126) := by decide +kernel
theorem fd_10_256 : rt_fd 10 256 = some (10, 256, 10, 22, 0, 1130) := by decide +kernel
theorem fd_10_259 : rt_fd 10 259 = some (10, 259, 10, 34, 0, 1142) := by decide +kernel
theorem fd_10_262 : rt_fd 10 262 = some (10, 262, 10, 37, 0, 1145) := by decide +kernel
theorem fd_10_265 : rt_fd 10 265 = some (10, 265, 10, 36, 0, 1144) := by decide +kernel
theorem fd_10_268 : rt_fd 10 268 = some (10, 268, 10, 33, 0, 1141) := by decide +kernel
theorem fd_10_291 : rt_fd 10 291 = some (10, 291, 10, 32, 0, 1140) := by decide +kernel
theorem fd_10_299 : rt_fd 10 299 = some (10, 299, 10, 38, 0, 1146) := by decide +kernel
theorem fd_10_320 : rt_fd 10 320 = some (10, 320, 10, 31, 0, 1139) := by decide +kernel
theorem fd_10_323 : rt_fd 10 323 = some (10, 323, 10, 35, 0, 1143) := by decide +kernel
theorem fd_10_332 : rt_fd 10 332 = some (10, 332, 10, 47, 0, 1155) := by decide +kernel
theorem fd_10_363 : rt_fd 10 363 = some (10, 363, 10, 52, 0, 1160) := by decide +kernel
theorem fd_10_369 : rt_fd 10 369 = some (10, 369, 10, 54, 0, 1162) := by decide +kernel
theorem fd_10_372 : rt_fd 10 372 = some (10, 372, 10, 53, 0, 1161) := by decide +kernel
theorem fd_10_387 : rt_fd 10 387 = some (10, 387, 10, 51, 0, 1159) := by decide +kernel
theorem fd_10_405 : rt_fd 10 405 = some (10, 405, 10, 55, 0, 1163) := by decide +kernel
theorem fd_10_414 : rt_fd 10 414 = some (10, 414, 10, 60, 0, 1168) := by decide +kernel
theorem fd_10_438 : rt_fd 10 438 = some (10, 438, 10, 62, 0, 1170) := by decide +kernel
theorem fd_10_441 : rt_fd 10 441 = some (10, 441, 10, 61, 0, 1169) := by decide +kernel
theorem fd_10_453 : rt_fd 10 453 = some (10, 453, 10, 63, 0, 1171) := by decide +kernel
theorem fd_10_456 : rt_fd 10 456 = some (10, 456, 10, 64, 0, 1172) := by decide +kernel
theorem fd_10_459 : rt_fd 10 459 = some (10, 459, 10, 65, 0, 1173) := by decide +kernel
set_option maxRecDepth 4000 in
theorem ca_0_3 : rt_ca 0 3 = some (0, 3, 4, 0, 187, 108, 109, 0) := rfl
set_option maxRecDepth 4000 in
theorem ca_0_37 : rt_ca 0 37 = some (0, 37, 1, 244, 981, 792, 100, 0) := rfl
set_option maxRecDepth 4000 in
theorem ca_0_43 : rt_ca 0 43 = some (0, 43, 1, 243, 982, 983, 100, 0) := rfl
set_option maxRecDepth 4000 in
theorem ca_1_3 : rt_ca 1 3 = some (1, 3, 4, 0, 230, 108, 109, 0) := rfl
set_option maxRecDepth 4000 in
theorem ca_1_31 : rt_ca 1 31 = some (1, 31, 2, 13, 964, 228, 90, 0) := rfl
set_option maxRecDepth 4000 in
theorem ca_1_32 : rt_ca 1 32 = some (1, 32, 5, 0, 965, 967, 966, 101) := rfl
set_option maxRecDepth 4000 in
theorem ca_2_3 : rt_ca 2 3 = some (2, 3, 4, 0, 255, 108, 109, 0) := rfl
set_option maxRecDepth 4000 in
theorem ca_2_25 : rt_ca 2 25 = some (2, 25, 0, 33, 635, 637, 11, 91) := rfl
set_option maxRecDepth 4000 in
theorem ca_2_29 : rt_ca 2 29 = some (2, 29, 0, 23, 639, 640, 641, 90) := rfl
set_option maxRecDepth 4000 in
theorem ca_2_35 : rt_ca 2 35 = some (2, 35, 1, 30, 628, 629, 91, 0) := rfl
set_option maxRecDepth 4000 in
theorem ca_2_39 : rt_ca 2 39 = some (2, 39, 0, 34, 624, 625, 626, 91) := rfl
set_option maxRecDepth 4000 in
theorem ca_3_3 : rt_ca 3 3 = some (3, 3, 4, 0, 115, 108, 109, 0) := rfl
set_option maxRecDepth 4000 in
theorem ca_3_37 : rt_ca 3 37 = some (3, 37, 0, 40, 395, 396, 397, 85) := rfl
set_option maxRecDepth 4000 in
theorem ca_3_41 : rt_ca 3 41 = some (3, 41, 0, 44, 399, 400, 401, 85) := rfl
set_option maxRecDepth 4000 in
theorem ca_3_45 : rt_ca 3 45 = some (3, 45, 0, 43, 407, 408, 409, 85) := rfl
set_option maxRecDepth 4000 in
theorem ca_3_48 : rt_ca 3 48 = some (3, 48, 0, 42, 403, 404, 405, 85) := rfl
set_option maxRecDepth 4000 in
theorem ca_3_52 : rt_ca 3 52 = some (3, 52, 0, 47, 391, 392, 393, 85) := rfl
set_option maxRecDepth 4000 in
theorem ca_3_55 : rt_ca 3 55 = some (3, 55, 0, 49, 411, 413, 0, 85) := rfl
set_option maxRecDepth 4000 in
theorem ca_3_59 : rt_ca 3 59 = some (3, 59, 0, 51, 728, 450, 451, 85) := rfl
set_option maxRecDepth 4000 in
theorem ca_4_3 : rt_ca 4 3 = some (4, 3, 4, 0, 224, 108, 109, 0) := rfl
set_option maxRecDepth 4000 in
theorem ca_4_11 : rt_ca 4 11 = some (4, 11, 3, 13, 227, 228, 90, 0) := rfl
set_option maxRecDepth 4000 in
theorem ca_4_20 : rt_ca 4 20 = some (4, 20, 3, 27, 252, 253, 91, 0) := rfl
set_option maxRecDepth 4000 in
theorem ca_4_33 : rt_ca 4 33 = some (4, 33, 0, 28, 651, 652, 653, 91) := rfl
set_option maxRecDepth 4000 in
theorem ca_4_50 : rt_ca 4 50 = some (4, 50, 0, 14, 1073, 679, 680, 90) := rfl
set_option maxRecDepth 4000 in
theorem ca_4_53 : rt_ca 4 53 = some (4, 53, 0, 15, 580, 581, 582, 90) := rfl
set_option maxRecDepth 4000 in
theorem ca_4_56 : rt_ca 4 56 = some (4, 56, 0, 72, 478, 480, 1, 89) := rfl
set_option maxRecDepth 4000 in
theorem ca_4_59 : rt_ca 4 59 = some (4, 59, 0, 121, 490, 491, 492, 86) := rfl
set_option maxRecDepth 4000 in
theorem ca_4_65 : rt_ca 4 65 = some (4, 65, 1, 73, 498, 499, 89, 0) := rfl
set_option maxRecDepth 4000 in
theorem ca_4_69 : rt_ca 4 69 = some (4, 69, 1, 71, 502, 503, 89, 0) := rfl
set_option maxRecDepth 4000 in
theorem ca_4_73 : rt_ca 4 73 = some (4, 73, 0, 74, 505, 507, 2, 89) := rfl
set_option maxRecDepth 4000 in
theorem ca_4_77 : rt_ca 4 77 = some (4, 77, 0, 84, 647, 649, 12, 89) := rfl
set_option maxRecDepth 4000 in
theorem ca_4_81 : rt_ca 4 81 = some (4, 81, 0, 16, 482, 483, 484, 90) := rfl
set_option maxRecDepth 4000 in
theorem ca_4_84 : rt_ca 4 84 = some (4, 84, 0, 31, 486, 487, 488, 91) := rfl
set_option maxRecDepth 4000 in
theorem ca_4_88 : rt_ca 4 88 = some (4, 88, 0, 120, 501, 495, 496, 86) := rfl
set_option maxRecDepth 4000 in
theorem ca_4_92 : rt_ca 4 92 = some (4, 92, 0, 130, 509, 510, 511, 87) := rfl
set_option maxRecDepth 4000 in
theorem ca_4_98 : rt_ca 4 98 = some (4, 98, 1, 75, 570, 571, 89, 0) := rfl
set_option maxRecDepth 4000 in
theorem ca_4_102 : rt_ca 4 102 = some (4, 102, 0, 76, 573, 575, 4, 89) := rfl
set_option maxRecDepth 4000 in
theorem ca_4_106 : rt_ca 4 106 = some (4, 106, 1, 77, 577, 578, 89, 0) := rfl
set_option maxRecDepth 4000 in
theorem ca_4_109 : rt_ca 4 109 = some (4, 109, 0, 78, 584, 586, 5, 89) := rfl
set_option maxRecDepth 4000 in
theorem ca_4_112 : rt_ca 4 112 = some (4, 112, 0, 79, 588, 590, 6, 89) := rfl
set_option maxRecDepth 4000 in
theorem ca_4_115 : rt_ca 4 115 = some (4, 115, 0, 80, 592, 594, 7, 89) := rfl
set_option maxRecDepth 4000 in
theorem ca_4_119 : rt_ca 4 119 = some (4, 119, 0, 81, 600, 602, 8, 89) := rfl
set_option maxRecDepth 4000 in
theorem ca_4_122 : rt_ca 4 122 = some (4, 122, 0, 82, 604, 606, 9, 89) := rfl
set_option maxRecDepth 4000 in
theorem ca_4_125 : rt_ca 4 125 = some (4, 125, 0, 83, 616, 618, 10, 89) := rfl
set_option maxRecDepth 4000 in
theorem ca_4_128 : rt_ca 4 128 = some (4, 128, 0, 17, 596, 597, 598, 90) := rfl
set_option maxRecDepth 4000 in
theorem ca_4_132 : rt_ca 4 132 = some (4, 132, 0, 18, 608, 609, 610, 90) := rfl
set_option maxRecDepth 4000 in
theorem ca_4_135 : rt_ca 4 135 = some (4, 135, 0, 19, 612, 613, 614, 90) := rfl
set_option maxRecDepth 4000 in
theorem ca_4_138 : rt_ca 4 138 = some (4, 138, 0, 35, 620, 621, 622, 91) := rfl
set_option maxRecDepth 4000 in
theorem ca_4_142 : rt_ca 4 142 = some (4, 142, 0, 32, 631, 632, 633, 91) := rfl
set_option maxRecDepth 4000 in
theorem ca_4_146 : rt_ca 4 146 = some (4, 146, 0, 20, 643, 644, 645, 90) := rfl
set_option maxRecDepth 4000 in
theorem ca_5_3 : rt_ca 5 3 = some (5, 3, 4, 0, 308, 108, 109, 0) := rfl
set_option maxRecDepth 4000 in
theorem ca_5_46 : rt_ca 5 46 = some (5, 46, 0, 94, 686, 688, 13, 92) := rfl
set_option maxRecDepth 4000 in
theorem ca_5_55 : rt_ca 5 55 = some (5, 55, 0, 6, 779, 780, 781, 88) := rfl
set_option maxRecDepth 4000 in
theorem ca_5_61 : rt_ca 5 61 = some (5, 61, 0, 97, 702, 704, 14, 92) := rfl
set_option maxRecDepth 4000 in
theorem ca_5_65 : rt_ca 5 65 = some (5, 65, 0, 95, 783, 785, 20, 92) := rfl
set_option maxRecDepth 4000 in
theorem ca_5_73 : rt_ca 5 73 = some (5, 73, 0, 28, 852, 652, 653, 91) := rfl
set_option maxRecDepth 4000 in
theorem ca_5_78 : rt_ca 5 78 = some (5, 78, 0, 106, 853, 855, 24, 92) := rfl
set_option maxRecDepth 4000 in
theorem ca_5_82 : rt_ca 5 82 = some (5, 82, 0, 125, 690, 691, 692, 87) := rfl
set_option maxRecDepth 4000 in
theorem ca_5_87 : rt_ca 5 87 = some (5, 87, 0, 126, 694, 695, 696, 87) := rfl
set_option maxRecDepth 4000 in
theorem ca_5_90 : rt_ca 5 90 = some (5, 90, 0, 128, 698, 699, 700, 87) := rfl
set_option maxRecDepth 4000 in
theorem ca_5_94 : rt_ca 5 94 = some (5, 94, 0, 127, 754, 755, 756, 87) := rfl
set_option maxRecDepth 4000 in
theorem ca_5_97 : rt_ca 5 97 = some (5, 97, 0, 96, 758, 760, 19, 92) := rfl
set_option maxRecDepth 4000 in
theorem ca_5_100 : rt_ca 5 100 = some (5, 100, 0, 29, 787, 670, 671, 91) := rfl
set_option maxRecDepth 4000 in
theorem ca_5_101 : rt_ca 5 101 = some (5, 101, 0, 14, 706, 679, 680, 90) := rfl
set_option maxRecDepth 4000 in
theorem ca_5_106 : rt_ca 5 106 = some (5, 106, 0, 21, 711, 712, 713, 90) := rfl
set_option maxRecDepth 4000 in
theorem ca_5_109 : rt_ca 5 109 = some (5, 109, 0, 86, 771, 772, 773, 92) := rfl
set_option maxRecDepth 4000 in
theorem ca_5_112 : rt_ca 5 112 = some (5, 112, 1, 102, 788, 789, 92, 0) := rfl
set_option maxRecDepth 4000 in
theorem ca_5_116 : rt_ca 5 116 = some (5, 116, 0, 103, 797, 799, 21, 92) := rfl
set_option maxRecDepth 4000 in
theorem ca_5_120 : rt_ca 5 120 = some (5, 120, 1, 245, 762, 763, 99, 0) := rfl
set_option maxRecDepth 4000 in
theorem ca_5_125 : rt_ca 5 125 = some (5, 125, 0, 15, 765, 581, 582, 90) := rfl
set_option maxRecDepth 4000 in
theorem ca_5_128 : rt_ca 5 128 = some (5, 128, 1, 30, 766, 629, 91, 0) := rfl
set_option maxRecDepth 4000 in
theorem ca_5_131 : rt_ca 5 131 = some (5, 131, 0, 24, 767, 768, 769, 90) := rfl
set_option maxRecDepth 4000 in
theorem ca_5_134 : rt_ca 5 134 = some (5, 134, 0, 57, 775, 776, 777, 85) := rfl
set_option maxRecDepth 4000 in
theorem ca_5_140 : rt_ca 5 140 = some (5, 140, 0, 98, 707, 709, 15, 92) := rfl
set_option maxRecDepth 4000 in
theorem ca_5_144 : rt_ca 5 144 = some (5, 144, 0, 7, 715, 716, 717, 88) := rfl
set_option maxRecDepth 4000 in
theorem ca_5_147 : rt_ca 5 147 = some (5, 147, 0, 99, 719, 721, 16, 92) := rfl
set_option maxRecDepth 4000 in
theorem ca_5_150 : rt_ca 5 150 = some (5, 150, 0, 54, 724, 725, 726, 85) := rfl
set_option maxRecDepth 4000 in
theorem ca_5_153 : rt_ca 5 153 = some (5, 153, 0, 23, 729, 640, 641, 90) := rfl
set_option maxRecDepth 4000 in
theorem ca_5_156 : rt_ca 5 156 = some (5, 156, 0, 100, 730, 732, 17, 92) := rfl
set_option maxRecDepth 4000 in
theorem ca_5_159 : rt_ca 5 159 = some (5, 159, 0, 101, 738, 740, 18, 92) := rfl
set_option maxRecDepth 4000 in
theorem ca_5_162 : rt_ca 5 162 = some (5, 162, 0, 40, 723, 396, 397, 85) := rfl
set_option maxRecDepth 4000 in
theorem ca_5_166 : rt_ca 5 166 = some (5, 166, 0, 55, 734, 735, 736, 85) := rfl
set_option maxRecDepth 4000 in
theorem ca_5_169 : rt_ca 5 169 = some (5, 169, 0, 22, 742, 743, 744, 90) := rfl
set_option maxRecDepth 4000 in
theorem ca_5_173 : rt_ca 5 173 = some (5, 173, 0, 37, 746, 747, 748, 85) := rfl
set_option maxRecDepth 4000 in
theorem ca_5_176 : rt_ca 5 176 = some (5, 176, 0, 56, 750, 751, 752, 85) := rfl
set_option maxRecDepth 4000 in
theorem ca_5_179 : rt_ca 5 179 = some (5, 179, 1, 244, 791, 792, 100, 0) := rfl
set_option maxRecDepth 4000 in
theorem ca_5_184 : rt_ca 5 184 = some (5, 184, 0, 62, 801, 802, 803, 89) := rfl
set_option maxRecDepth 4000 in
theorem ca_5_187 : rt_ca 5 187 = some (5, 187, 0, 39, 805, 806, 807, 85) := rfl
set_option maxRecDepth 4000 in
theorem ca_5_190 : rt_ca 5 190 = some (5, 190, 0, 104, 809, 811, 22, 92) := rfl
set_option maxRecDepth 4000 in
theorem ca_5_193 : rt_ca 5 193 = some (5, 193, 0, 64, 814, 815, 816, 89) := rfl
set_option maxRecDepth 4000 in
theorem ca_5_197 : rt_ca 5 197 = some (5, 197, 0, 105, 818, 820, 23, 92) := rfl
set_option maxRecDepth 4000 in
theorem ca_5_200 : rt_ca 5 200 = some (5, 200, 0, 42, 813, 404, 405, 85) := rfl
set_option maxRecDepth 4000 in
theorem ca_5_203 : rt_ca 5 203 = some (5, 203, 0, 34, 822, 625, 626, 91) := rfl
set_option maxRecDepth 4000 in
theorem ca_5_206 : rt_ca 5 206 = some (5, 206, 0, 46, 823, 824, 825, 85) := rfl
set_option maxRecDepth 4000 in
theorem ca_5_209 : rt_ca 5 209 = some (5, 209, 0, 66, 857, 858, 859, 89) := rfl
set_option maxRecDepth 4000 in
theorem ca_5_212 : rt_ca 5 212 = some (5, 212, 0, 107, 861, 862, 863, 92) := rfl
set_option maxRecDepth 4000 in
theorem ca_6_3 : rt_ca 6 3 = some (6, 3, 4, 0, 345, 108, 109, 0) := rfl
set_option maxRecDepth 4000 in
theorem ca_6_19 : rt_ca 6 19 = some (6, 19, 0, 110, 892, 893, 894, 93) := rfl
set_option maxRecDepth 4000 in
theorem ca_6_22 : rt_ca 6 22 = some (6, 22, 0, 115, 896, 898, 25, 93) := rfl
set_option maxRecDepth 4000 in
theorem ca_6_26 : rt_ca 6 26 = some (6, 26, 0, 43, 900, 408, 409, 85) := rfl
set_option maxRecDepth 4000 in
theorem ca_6_32 : rt_ca 6 32 = some (6, 32, 0, 113, 901, 903, 26, 93) := rfl
set_option maxRecDepth 4000 in
theorem ca_6_36 : rt_ca 6 36 = some (6, 36, 0, 42, 905, 404, 405, 85) := rfl
set_option maxRecDepth 4000 in
theorem ca_6_40 : rt_ca 6 40 = some (6, 40, 0, 44, 906, 400, 401, 85) := rfl
set_option maxRecDepth 4000 in
theorem ca_6_43 : rt_ca 6 43 = some (6, 43, 0, 39, 907, 806, 807, 85) := rfl
set_option maxRecDepth 4000 in
theorem ca_6_47 : rt_ca 6 47 = some (6, 47, 0, 114, 908, 910, 27, 93) := rfl
set_option maxRecDepth 4000 in
theorem ca_7_3 : rt_ca 7 3 = some (7, 3, 4, 0, 147, 108, 109, 0) := rfl
set_option maxRecDepth 4000 in
theorem ca_7_19 : rt_ca 7 19 = some (7, 19, 0, 118, 465, 458, 459, 86) := rfl
set_option maxRecDepth 4000 in
theorem ca_7_23 : rt_ca 7 23 = some (7, 23, 0, 120, 494, 495, 496, 86) := rfl
set_option maxRecDepth 4000 in
theorem ca_8_3 : rt_ca 8 3 = some (8, 3, 4, 0, 160, 108, 109, 0) := rfl
set_option maxRecDepth 4000 in
theorem ca_8_34 : rt_ca 8 34 = some (8, 34, 0, 67, 951, 952, 953, 89) := rfl
set_option maxRecDepth 4000 in
theorem ca_8_40 : rt_ca 8 40 = some (8, 40, 0, 68, 955, 956, 957, 89) := rfl
set_option maxRecDepth 4000 in
theorem ca_8_48 : rt_ca 8 48 = some (8, 48, 0, 26, 959, 960, 961, 90) := rfl
set_option maxRecDepth 4000 in
theorem ca_8_56 : rt_ca 8 56 = some (8, 56, 0, 29, 968, 670, 671, 91) := rfl
set_option maxRecDepth 4000 in
theorem ca_8_61 : rt_ca 8 61 = some (8, 61, 1, 131, 513, 514, 87, 0) := rfl
set_option maxRecDepth 4000 in
theorem ca_8_65 : rt_ca 8 65 = some (8, 65, 0, 132, 566, 568, 3, 87) := rfl
set_option maxRecDepth 4000 in
theorem ca_8_71 : rt_ca 8 71 = some (8, 71, 6, 0, 517, 518, 519, 95) := rfl
set_option maxRecDepth 4000 in
theorem ca_8_76 : rt_ca 8 76 = some (8, 76, 7, 0, 527, 528, 529, 95) := rfl
set_option maxRecDepth 4000 in
theorem ca_8_80 : rt_ca 8 80 = some (8, 80, 0, 120, 565, 495, 496, 86) := rfl
set_option maxRecDepth 4000 in
theorem ca_9_3 : rt_ca 9 3 = some (9, 3, 4, 0, 107, 108, 109, 0) := rfl
set_option maxRecDepth 4000 in
theorem ca_9_11 : rt_ca 9 11 = some (9, 11, 3, 36, 112, 113, 85, 0) := rfl
set_option maxRecDepth 4000 in
theorem ca_9_18 : rt_ca 9 18 = some (9, 18, 3, 116, 144, 145, 86, 0) := rfl
set_option maxRecDepth 4000 in
theorem ca_9_25 : rt_ca 9 25 = some (9, 25, 3, 124, 157, 158, 87, 0) := rfl
set_option maxRecDepth 4000 in
theorem ca_9_32 : rt_ca 9 32 = some (9, 32, 3, 0, 184, 185, 88, 0) := rfl
set_option maxRecDepth 4000 in
theorem ca_9_39 : rt_ca 9 39 = some (9, 39, 3, 58, 221, 222, 89, 0) := rfl
set_option maxRecDepth 4000 in
theorem ca_9_46 : rt_ca 9 46 = some (9, 46, 2, 85, 305, 306, 92, 0) := rfl
set_option maxRecDepth 4000 in
theorem ca_9_55 : rt_ca 9 55 = some (9, 55, 3, 108, 342, 343, 93, 0) := rfl
set_option maxRecDepth 4000 in
theorem ca_9_60 : rt_ca 9 60 = some (9, 60, 0, 41, 379, 380, 381, 85) := rfl
set_option maxRecDepth 4000 in
theorem ca_9_64 : rt_ca 9 64 = some (9, 64, 0, 48, 387, 388, 389, 85) := rfl
set_option maxRecDepth 4000 in
theorem ca_9_68 : rt_ca 9 68 = some (9, 68, 0, 50, 419, 420, 421, 85) := rfl
set_option maxRecDepth 4000 in
theorem ca_9_72 : rt_ca 9 72 = some (9, 72, 0, 43, 427, 408, 409, 85) := rfl
set_option maxRecDepth 4000 in
theorem ca_9_76 : rt_ca 9 76 = some (9, 76, 0, 44, 432, 400, 401, 85) := rfl
set_option maxRecDepth 4000 in
theorem ca_9_79 : rt_ca 9 79 = some (9, 79, 0, 45, 433, 434, 435, 85) := rfl
set_option maxRecDepth 4000 in
theorem ca_9_82 : rt_ca 9 82 = some (9, 82, 0, 52, 441, 442, 443, 85) := rfl
set_option maxRecDepth 4000 in
theorem ca_9_86 : rt_ca 9 86 = some (9, 86, 0, 51, 449, 450, 451, 85) := rfl
set_option maxRecDepth 4000 in
theorem ca_9_89 : rt_ca 9 89 = some (9, 89, 0, 118, 457, 458, 459, 86) := rfl
set_option maxRecDepth 4000 in
theorem ca_9_93 : rt_ca 9 93 = some (9, 93, 0, 119, 461, 462, 463, 86) := rfl
set_option maxRecDepth 4000 in
theorem ca_9_97 : rt_ca 9 97 = some (9, 97, 0, 117, 466, 467, 468, 86) := rfl
set_option maxRecDepth 4000 in
theorem ca_9_100 : rt_ca 9 100 = some (9, 100, 0, 70, 474, 475, 476, 89) := rfl
set_option maxRecDepth 4000 in
theorem ca_9_104 : rt_ca 9 104 = some (9, 104, 0, 123, 655, 656, 657, 86) := rfl
set_option maxRecDepth 4000 in
theorem ca_9_107 : rt_ca 9 107 = some (9, 107, 0, 61, 664, 665, 666, 89) := rfl
set_option maxRecDepth 4000 in
theorem ca_9_114 : rt_ca 9 114 = some (9, 114, 0, 15, 668, 581, 582, 90) := rfl
set_option maxRecDepth 4000 in
theorem ca_9_123 : rt_ca 9 123 = some (9, 123, 0, 29, 669, 670, 671, 91) := rfl
set_option maxRecDepth 4000 in
theorem ca_9_128 : rt_ca 9 128 = some (9, 128, 1, 30, 673, 629, 91, 0) := rfl
set_option maxRecDepth 4000 in
theorem ca_9_131 : rt_ca 9 131 = some (9, 131, 0, 14, 678, 679, 680, 90) := rfl
set_option maxRecDepth 4000 in
theorem ca_9_134 : rt_ca 9 134 = some (9, 134, 0, 92, 682, 683, 684, 92) := rfl
set_option maxRecDepth 4000 in
theorem ca_9_138 : rt_ca 9 138 = some (9, 138, 0, 86, 827, 772, 773, 92) := rfl
set_option maxRecDepth 4000 in
theorem ca_9_141 : rt_ca 9 141 = some (9, 141, 0, 87, 832, 833, 834, 92) := rfl
set_option maxRecDepth 4000 in
theorem ca_9_144 : rt_ca 9 144 = some (9, 144, 0, 88, 836, 837, 838, 92) := rfl
set_option maxRecDepth 4000 in
theorem ca_9_147 : rt_ca 9 147 = some (9, 147, 0, 59, 844, 845, 846, 89) := rfl
set_option maxRecDepth 4000 in
theorem ca_9_151 : rt_ca 9 151 = some (9, 151, 0, 93, 848, 849, 850, 92) := rfl
set_option maxRecDepth 4000 in
theorem ca_9_155 : rt_ca 9 155 = some (9, 155, 0, 66, 869, 858, 859, 89) := rfl
set_option maxRecDepth 4000 in
theorem ca_9_158 : rt_ca 9 158 = some (9, 158, 0, 107, 870, 862, 863, 92) := rfl
set_option maxRecDepth 4000 in
theorem ca_9_162 : rt_ca 9 162 = some (9, 162, 0, 65, 875, 876, 877, 89) := rfl
set_option maxRecDepth 4000 in
theorem ca_9_165 : rt_ca 9 165 = some (9, 165, 0, 62, 879, 802, 803, 89) := rfl
set_option maxRecDepth 4000 in
theorem ca_9_168 : rt_ca 9 168 = some (9, 168, 0, 89, 880, 881, 882, 92) := rfl
set_option maxRecDepth 4000 in
theorem ca_9_171 : rt_ca 9 171 = some (9, 171, 0, 90, 884, 885, 886, 92) := rfl
set_option maxRecDepth 4000 in
theorem ca_9_174 : rt_ca 9 174 = some (9, 174, 0, 112, 888, 889, 890, 93) := rfl
set_option maxRecDepth 4000 in
theorem ca_9_178 : rt_ca 9 178 = some (9, 178, 0, 109, 912, 913, 914, 93) := rfl
set_option maxRecDepth 4000 in
theorem ca_9_179 : rt_ca 9 179 = some (9, 179, 0, 111, 916, 917, 918, 93) := rfl
set_option maxRecDepth 4000 in
theorem ca_9_182 : rt_ca 9 182 = some (9, 182, 0, 110, 924, 893, 894, 93) := rfl
set_option maxRecDepth 4000 in
theorem ca_9_185 : rt_ca 9 185 = some (9, 185, 0, 158, 925, 927, 28, 84) := rfl
set_option maxRecDepth 4000 in
theorem ca_9_188 : rt_ca 9 188 = some (9, 188, 0, 159, 942, 944, 29, 84) := rfl
set_option maxRecDepth 4000 in
theorem ca_9_191 : rt_ca 9 191 = some (9, 191, 0, 7, 1002, 716, 717, 88) := rfl
set_option maxRecDepth 4000 in
theorem ca_9_194 : rt_ca 9 194 = some (9, 194, 0, 40, 1007, 396, 397, 85) := rfl
set_option maxRecDepth 4000 in
theorem ca_9_197 : rt_ca 9 197 = some (9, 197, 0, 10, 1008, 1009, 1010, 88) := rfl
set_option maxRecDepth 4000 in
theorem ca_9_200 : rt_ca 9 200 = some (9, 200, 0, 2, 1016, 1017, 1018, 88) := rfl
set_option maxRecDepth 4000 in
theorem ca_9_203 : rt_ca 9 203 = some (9, 203, 0, 11, 1020, 1021, 1022, 88) := rfl
set_option maxRecDepth 4000 in
theorem ca_9_207 : rt_ca 9 207 = some (9, 207, 0, 3, 1028, 1029, 1030, 88) := rfl
set_option maxRecDepth 4000 in
theorem ca_9_210 : rt_ca 9 210 = some (9, 210, 0, 4, 1032, 1033, 1034, 88) := rfl
set_option maxRecDepth 4000 in
theorem ca_9_213 : rt_ca 9 213 = some (9, 213, 0, 5, 929, 930, 931, 88) := rfl
set_option maxRecDepth 4000 in
theorem ca_9_216 : rt_ca 9 216 = some (9, 216, 0, 53, 1040, 1041, 1042, 85) := rfl
set_option maxRecDepth 4000 in
theorem ca_9_219 : rt_ca 9 219 = some (9, 219, 0, 125, 937, 691, 692, 87) := rfl
set_option maxRecDepth 4000 in
theorem ca_9_222 : rt_ca 9 222 = some (9, 222, 0, 91, 1048, 1049, 1050, 92) := rfl
set_option maxRecDepth 4000 in
theorem ca_9_225 : rt_ca 9 225 = some (9, 225, 0, 160, 1056, 1058, 30, 84) := rfl
set_option maxRecDepth 4000 in
theorem ca_9_228 : rt_ca 9 228 = some (9, 228, 0, 37, 1064, 747, 748, 85) := rfl
set_option maxRecDepth 4000 in
theorem ca_9_231 : rt_ca 9 231 = some (9, 231, 0, 38, 933, 934, 935, 85) := rfl
set_option maxRecDepth 4000 in
theorem ca_9_234 : rt_ca 9 234 = some (9, 234, 0, 1, 938, 939, 940, 88) := rfl
set_option maxRecDepth 4000 in
theorem ca_9_237 : rt_ca 9 237 = some (9, 237, 0, 69, 1069, 1070, 1071, 89) := rfl
set_option maxRecDepth 4000 in
theorem ca_9_240 : rt_ca 9 240 = some (9, 240, 0, 6, 946, 780, 781, 88) := rfl
set_option maxRecDepth 4000 in
theorem ca_9_243 : rt_ca 9 243 = some (9, 243, 0, 129, 947, 948, 949, 87) := rfl
set_option maxRecDepth 4000 in
theorem ca_9_246 : rt_ca 9 246 = some (9, 246, 0, 63, 969, 970, 971, 89) := rfl
set_option maxRecDepth 4000 in
theorem ca_9_249 : rt_ca 9 249 = some (9, 249, 0, 9, 973, 974, 975, 88) := rfl
set_option maxRecDepth 4000 in
theorem ca_9_253 : rt_ca 9 253 = some (9, 253, 0, 8, 977, 978, 979, 88) := rfl
set_option maxRecDepth 4000 in
theorem ca_9_256 : rt_ca 9 256 = some (9, 256, 0, 25, 986, 987, 988, 90) := rfl
set_option maxRecDepth 4000 in
theorem ca_9_257 : rt_ca 9 257 = some (9, 257, 0, 12, 990, 991, 992, 88) := rfl
set_option maxRecDepth 4000 in
theorem ca_9_260 : rt_ca 9 260 = some (9, 260, 0, 60, 994, 995, 996, 89) := rfl
set_option maxRecDepth 4000 in
theorem ca_9_263 : rt_ca 9 263 = some (9, 263, 0, 122, 1060, 1061, 1062, 86) := rfl
set_option maxRecDepth 4000 in
theorem ca_10_1 : rt_ca 10 1 = some (10, 1, 4, 0, 1079, 108, 109, 0) := rfl
set_option maxRecDepth 4000 in
theorem ca_10_187 : rt_ca 10 187 = some (10, 187, 1, 162, 1319, 1320, 94, 0) := rfl
set_option maxRecDepth 4000 in
theorem ca_10_191 : rt_ca 10 191 = some (10, 191, 0, 165, 1338, 1340, 34, 94) := rfl
set_option maxRecDepth 4000 in
theorem ca_10_195 : rt_ca 10 195 = some (10, 195, 0, 167, 1330, 1332, 32, 94) := rfl
set_option maxRecDepth 4000 in
theorem ca_10_199 : rt_ca 10 199 = some (10, 199, 0, 163, 1334, 1336, 33, 94) := rfl
set_option maxRecDepth 4000 in
theorem ca_10_206 : rt_ca 10 206 = some (10, 206, 0, 168, 1326, 1328, 31, 94) := rfl
set_option maxRecDepth 4000 in
theorem ca_10_210 : rt_ca 10 210 = some (10, 210, 0, 169, 1342, 1344, 35, 94) := rfl
set_option maxRecDepth 4000 in
theorem ca_10_214 : rt_ca 10 214 = some (10, 214, 0, 166, 1358, 1360, 36, 94) := rfl
set_option maxRecDepth 4000 in
theorem ca_10_217 : rt_ca 10 217 = some (10, 217, 0, 174, 1366, 1368, 37, 94) := rfl
set_option maxRecDepth 4000 in
theorem ca_10_223 : rt_ca 10 223 = some (10, 223, 0, 177, 1378, 1380, 38, 94) := rfl
set_option maxRecDepth 4000 in
theorem ca_10_246 : rt_ca 10 246 = some (10, 246, 0, 180, 1394, 1396, 41, 94) := rfl
set_option maxRecDepth 4000 in
theorem ca_10_249 : rt_ca 10 249 = some (10, 249, 0, 179, 1398, 1400, 42, 94) := rfl
set_option maxRecDepth 4000 in
theorem ca_10_271 : rt_ca 10 271 = some (10, 271, 0, 185, 1432, 1434, 50, 94) := rfl
set_option maxRecDepth 4000 in
theorem ca_10_275 : rt_ca 10 275 = some (10, 275, 0, 187, 1436, 1438, 51, 94) := rfl
set_option maxRecDepth 4000 in
theorem ca_10_278 : rt_ca 10 278 = some (10, 278, 0, 184, 1416, 1418, 46, 94) := rfl
set_option maxRecDepth 4000 in
theorem ca_10_281 : rt_ca 10 281 = some (10, 281, 0, 189, 1424, 1426, 48, 94) := rfl
set_option maxRecDepth 4000 in
theorem ca_10_284 : rt_ca 10 284 = some (10, 284, 0, 186, 1428, 1430, 49, 94) := rfl
set_option maxRecDepth 4000 in
theorem ca_10_287 : rt_ca 10 287 = some (10, 287, 0, 188, 1440, 1442, 52, 94) := rfl
set_option maxRecDepth 4000 in
theorem ca_10_295 : rt_ca 10 295 = some (10, 295, 0, 183, 1412, 1414, 45, 94) := rfl
set_option maxRecDepth 4000 in
theorem ca_10_302 : rt_ca 10 302 = some (10, 302, 0, 181, 1390, 1392, 40, 94) := rfl
set_option maxRecDepth 4000 in
theorem ca_10_305 : rt_ca 10 305 = some (10, 305, 0, 182, 1404, 1406, 43, 94) := rfl
set_option maxRecDepth 4000 in
theorem ca_10_308 : rt_ca 10 308 = some (10, 308, 0, 191, 1408, 1410, 44, 94) := rfl
set_option maxRecDepth 4000 in
theorem ca_10_311 : rt_ca 10 311 = some (10, 311, 0, 190, 1420, 1422, 47, 94) := rfl
set_option maxRecDepth 4000 in
theorem ca_10_314 : rt_ca 10 314 = some (10, 314, 0, 192, 1444, 1446, 53, 94) := rfl
set_option maxRecDepth 4000 in
theorem ca_10_317 : rt_ca 10 317 = some (10, 317, 0, 193, 1386, 1388, 39, 94) := rfl
set_option maxRecDepth 4000 in
theorem ca_10_326 : rt_ca 10 326 = some (10, 326, 0, 195, 1479, 1481, 59, 94) := rfl
set_option maxRecDepth 4000 in
theorem ca_10_329 : rt_ca 10 329 = some (10, 329, 0, 196, 1483, 1485, 60, 94) := rfl
set_option maxRecDepth 4000 in
theorem ca_10_335 : rt_ca 10 335 = some (10, 335, 0, 197, 1475, 1477, 58, 94) := rfl
set_option maxRecDepth 4000 in
theorem ca_10_339 : rt_ca 10 339 = some (10, 339, 0, 202, 1487, 1489, 61, 94) := rfl
set_option maxRecDepth 4000 in
theorem ca_10_343 : rt_ca 10 343 = some (10, 343, 0, 198, 1491, 1493, 62, 94) := rfl
set_option maxRecDepth 4000 in
theorem ca_10_346 : rt_ca 10 346 = some (10, 346, 1, 200, 1456, 1457, 94, 0) := rfl
set_option maxRecDepth 4000 in
theorem ca_10_350 : rt_ca 10 350 = some (10, 350, 0, 199, 1495, 1497, 63, 94) := rfl
set_option maxRecDepth 4000 in
theorem ca_10_353 : rt_ca 10 353 = some (10, 353, 0, 201, 1471, 1473, 57, 94) := rfl
set_option maxRecDepth 4000 in
theorem ca_10_357 : rt_ca 10 357 = some (10, 357, 0, 203, 1467, 1469, 56, 94) := rfl
set_option maxRecDepth 4000 in
theorem ca_10_360 : rt_ca 10 360 = some (10, 360, 1, 205, 1518, 1519, 94, 0) := rfl
set_option maxRecDepth 4000 in
theorem ca_10_366 : rt_ca 10 366 = some (10, 366, 0, 208, 1529, 1531, 69, 94) := rfl
set_option maxRecDepth 4000 in
theorem ca_10_375 : rt_ca 10 375 = some (10, 375, 0, 209, 1514, 1516, 66, 94) := rfl
set_option maxRecDepth 4000 in
theorem ca_10_378 : rt_ca 10 378 = some (10, 378, 0, 207, 1521, 1523, 67, 94) := rfl
set_option maxRecDepth 4000 in
theorem ca_10_381 : rt_ca 10 381 = some (10, 381, 0, 210, 1525, 1527, 68, 94) := rfl
set_option maxRecDepth 4000 in
theorem ca_10_384 : rt_ca 10 384 = some (10, 384, 0, 204, 1463, 1465, 55, 94) := rfl
set_option maxRecDepth 4000 in
theorem ca_10_390 : rt_ca 10 390 = some (10, 390, 1, 206, 1507, 1508, 94, 0) := rfl
set_option maxRecDepth 4000 in
theorem ca_10_393 : rt_ca 10 393 = some (10, 393, 0, 211, 1510, 1512, 65, 94) := rfl
set_option maxRecDepth 4000 in
theorem ca_10_396 : rt_ca 10 396 = some (10, 396, 0, 213, 1545, 1547, 72, 94) := rfl
set_option maxRecDepth 4000 in
theorem ca_10_399 : rt_ca 10 399 = some (10, 399, 0, 212, 1503, 1505, 64, 94) := rfl
set_option maxRecDepth 4000 in
theorem ca_10_402 : rt_ca 10 402 = some (10, 402, 0, 214, 1541, 1543, 71, 94) := rfl
set_option maxRecDepth 4000 in
theorem ca_10_408 : rt_ca 10 408 = some (10, 408, 0, 216, 1452, 1454, 54, 94) := rfl
set_option maxRecDepth 4000 in
theorem ca_10_411 : rt_ca 10 411 = some (10, 411, 0, 215, 1537, 1539, 70, 94) := rfl
set_option maxRecDepth 4000 in
theorem ca_10_417 : rt_ca 10 417 = some (10, 417, 0, 223, 1568, 1570, 75, 94) := rfl
set_option maxRecDepth 4000 in
theorem ca_10_420 : rt_ca 10 420 = some (10, 420, 0, 222, 1576, 1578, 77, 94) := rfl
set_option maxRecDepth 4000 in
theorem ca_10_423 : rt_ca 10 423 = some (10, 423, 0, 224, 1564, 1566, 74, 94) := rfl
set_option maxRecDepth 4000 in
theorem ca_10_426 : rt_ca 10 426 = some (10, 426, 0, 226, 1572, 1574, 76, 94) := rfl
set_option maxRecDepth 4000 in
theorem ca_10_429 : rt_ca 10 429 = some (10, 429, 0, 225, 1580, 1582, 78, 94) := rfl
set_option maxRecDepth 4000 in
theorem ca_10_432 : rt_ca 10 432 = some (10, 432, 1, 228, 1557, 1558, 94, 0) := rfl
set_option maxRecDepth 4000 in
theorem ca_10_435 : rt_ca 10 435 = some (10, 435, 0, 227, 1560, 1562, 73, 94) := rfl
set_option maxRecDepth 4000 in
theorem ca_10_444 : rt_ca 10 444 = some (10, 444, 0, 232, 1588, 1590, 79, 94) := rfl
set_option maxRecDepth 4000 in
theorem ca_10_447 : rt_ca 10 447 = some (10, 447, 0, 230, 1592, 1594, 80, 94) := rfl
set_option maxRecDepth 4000 in
theorem ca_10_450 : rt_ca 10 450 = some (10, 450, 0, 231, 1596, 1598, 81, 94) := rfl
set_option maxRecDepth 4000 in
theorem ca_10_462 : rt_ca 10 462 = some (10, 462, 0, 240, 1628, 1630, 82, 94) := rfl
theorem nw_1_10 : rt_nw 1 10 = some (1, 10, 1, 963, 226, 90) := by decide +kernel
theorem nw_4_9 : rt_nw 4 9 = some (4, 9, 1, 225, 226, 90) := by decide +kernel
theorem nw_4_18 : rt_nw 4 18 = some (4, 18, 2, 250, 251, 91) := by decide +kernel
theorem nw_8_18 : rt_nw 8 18 = some (8, 18, 1, 161, 226, 90) := by decide +kernel
theorem nw_9_9 : rt_nw 9 9 = some (9, 9, 3, 110, 111, 85) := by decide +kernel
theorem nw_9_16 : rt_nw 9 16 = some (9, 16, 7, 142, 143, 86) := by decide +kernel
theorem nw_9_23 : rt_nw 9 23 = some (9, 23, 8, 155, 156, 87) := by decide +kernel
theorem nw_9_30 : rt_nw 9 30 = some (9, 30, 0, 182, 183, 88) := by decide +kernel
theorem nw_9_37 : rt_nw 9 37 = some (9, 37, 4, 219, 220, 89) := by decide +kernel
theorem nw_9_44 : rt_nw 9 44 = some (9, 44, 5, 303, 304, 92) := by decide +kernel
theorem nw_9_53 : rt_nw 9 53 = some (9, 53, 6, 340, 341, 93) := by decide +kernel
theorem co_X0_init : rt_code mX0_init = cX0_init := rfl
theorem ow_X0_init : rt_own mX0_init = 0 := rfl
theorem co_X0_statements : rt_code mX0_statements = cX0_statements := rfl
theorem ow_X0_statements : rt_own mX0_statements = 0 := rfl
theorem co_X0_judged : rt_code mX0_judged = cX0_judged := rfl
theorem ow_X0_judged : rt_own mX0_judged = 0 := rfl
theorem co_X0_otherwise : rt_code mX0_otherwise = cX0_otherwise := rfl
theorem ow_X0_otherwise : rt_own mX0_otherwise = 0 := rfl
theorem co_X0_firstOtherwise : rt_code mX0_firstOtherwise = cX0_firstOtherwise := rfl
theorem ow_X0_firstOtherwise : rt_own mX0_firstOtherwise = 0 := rfl
theorem co_X0_sayings : rt_code mX0_sayings = cX0_sayings := rfl
theorem ow_X0_sayings : rt_own mX0_sayings = 0 := rfl
theorem co_X0_lastNoun : rt_code mX0_lastNoun = cX0_lastNoun := rfl
theorem ow_X0_lastNoun : rt_own mX0_lastNoun = 0 := rfl
theorem co_X0_mentionedBack : rt_code mX0_mentionedBack = cX0_mentionedBack := rfl
theorem ow_X0_mentionedBack : rt_own mX0_mentionedBack = 0 := rfl
theorem co_X0_mentionIfOne : rt_code mX0_mentionIfOne = cX0_mentionIfOne := rfl
theorem ow_X0_mentionIfOne : rt_own mX0_mentionIfOne = 0 := rfl
theorem co_X0_keepStatement : rt_code mX0_keepStatement = cX0_keepStatement := rfl
theorem ow_X0_keepStatement : rt_own mX0_keepStatement = 0 := rfl
theorem co_X0_owning : rt_code mX0_owning = cX0_owning := rfl
theorem ow_X0_owning : rt_own mX0_owning = 0 := rfl
theorem co_X0_keepJudged : rt_code mX0_keepJudged = cX0_keepJudged := rfl
theorem ow_X0_keepJudged : rt_own mX0_keepJudged = 0 := rfl
theorem co_X0_keepDone : rt_code mX0_keepDone = cX0_keepDone := rfl
theorem ow_X0_keepDone : rt_own mX0_keepDone = 0 := rfl
theorem co_X1_init : rt_code mX1_init = cX1_init := rfl
theorem ow_X1_init : rt_own mX1_init = 1 := rfl
theorem co_X1_nps : rt_code mX1_nps = cX1_nps := rfl
theorem ow_X1_nps : rt_own mX1_nps = 1 := rfl
theorem co_X1_onwards : rt_code mX1_onwards = cX1_onwards := rfl
theorem ow_X1_onwards : rt_own mX1_onwards = 1 := rfl
theorem co_X1_clear : rt_code mX1_clear = cX1_clear := rfl
theorem ow_X1_clear : rt_own mX1_clear = 1 := rfl
theorem co_X1_addNp : rt_code mX1_addNp = cX1_addNp := rfl
theorem ow_X1_addNp : rt_own mX1_addNp = 1 := rfl
theorem co_X1_addAdjective : rt_code mX1_addAdjective = cX1_addAdjective := rfl
theorem ow_X1_addAdjective : rt_own mX1_addAdjective = 1 := rfl
theorem co_X1_setNoun : rt_code mX1_setNoun = cX1_setNoun := rfl
theorem ow_X1_setNoun : rt_own mX1_setNoun = 1 := rfl
theorem co_X1_addOnward : rt_code mX1_addOnward = cX1_addOnward := rfl
theorem ow_X1_addOnward : rt_own mX1_addOnward = 1 := rfl
theorem co_X1_kind : rt_code mX1_kind = cX1_kind := rfl
theorem ow_X1_kind : rt_own mX1_kind = 1 := rfl
theorem co_X1_hasLook : rt_code mX1_hasLook = cX1_hasLook := rfl
theorem ow_X1_hasLook : rt_own mX1_hasLook = 1 := rfl
theorem co_X1_nounOf : rt_code mX1_nounOf = cX1_nounOf := rfl
theorem ow_X1_nounOf : rt_own mX1_nounOf = 1 := rfl
theorem co_X1_relation : rt_code mX1_relation = cX1_relation := rfl
theorem ow_X1_relation : rt_own mX1_relation = 1 := rfl
theorem co_X1_lastNoun : rt_code mX1_lastNoun = cX1_lastNoun := rfl
theorem ow_X1_lastNoun : rt_own mX1_lastNoun = 1 := rfl
theorem co_X1_copy : rt_code mX1_copy = cX1_copy := rfl
theorem ow_X1_copy : rt_own mX1_copy = 1 := rfl
theorem co_X2_init : rt_code mX2_init = cX2_init := rfl
theorem ow_X2_init : rt_own mX2_init = 2 := rfl
theorem co_X2_size : rt_code mX2_size = cX2_size := rfl
theorem ow_X2_size : rt_own mX2_size = 2 := rfl
theorem co_X2_row : rt_code mX2_row = cX2_row := rfl
theorem ow_X2_row : rt_own mX2_row = 2 := rfl
theorem co_X2_ownerOf : rt_code mX2_ownerOf = cX2_ownerOf := rfl
theorem ow_X2_ownerOf : rt_own mX2_ownerOf = 2 := rfl
theorem co_X2_restart : rt_code mX2_restart = cX2_restart := rfl
theorem ow_X2_restart : rt_own mX2_restart = 2 := rfl
theorem co_X2_extend : rt_code mX2_extend = cX2_extend := rfl
theorem ow_X2_extend : rt_own mX2_extend = 2 := rfl
theorem co_X2_openOwners : rt_code mX2_openOwners = cX2_openOwners := rfl
theorem ow_X2_openOwners : rt_own mX2_openOwners = 2 := rfl
theorem co_X2_placeOnward : rt_code mX2_placeOnward = cX2_placeOnward := rfl
theorem ow_X2_placeOnward : rt_own mX2_placeOnward = 2 := rfl
theorem co_X2_keep : rt_code mX2_keep = cX2_keep := rfl
theorem ow_X2_keep : rt_own mX2_keep = 2 := rfl
theorem co_X3_init : rt_code mX3_init = cX3_init := rfl
theorem ow_X3_init : rt_own mX3_init = 3 := rfl
theorem co_X3_things : rt_code mX3_things = cX3_things := rfl
theorem ow_X3_things : rt_own mX3_things = 3 := rfl
theorem co_X3_events : rt_code mX3_events = cX3_events := rfl
theorem ow_X3_events : rt_own mX3_events = 3 := rfl
theorem co_X3_held : rt_code mX3_held = cX3_held := rfl
theorem ow_X3_held : rt_own mX3_held = 3 := rfl
theorem co_X3_has : rt_code mX3_has = cX3_has := rfl
theorem ow_X3_has : rt_own mX3_has = 3 := rfl
theorem co_X3_addThing : rt_code mX3_addThing = cX3_addThing := rfl
theorem ow_X3_addThing : rt_own mX3_addThing = 3 := rfl
theorem co_X3_isSort : rt_code mX3_isSort = cX3_isSort := rfl
theorem ow_X3_isSort : rt_own mX3_isSort = 3 := rfl
theorem co_X3_placeOf : rt_code mX3_placeOf = cX3_placeOf := rfl
theorem ow_X3_placeOf : rt_own mX3_placeOf = 3 := rfl
theorem co_X3_onTop : rt_code mX3_onTop = cX3_onTop := rfl
theorem ow_X3_onTop : rt_own mX3_onTop = 3 := rfl
theorem co_X3_highestOver : rt_code mX3_highestOver = cX3_highestOver := rfl
theorem ow_X3_highestOver : rt_own mX3_highestOver = 3 := rfl
theorem co_X3_standsOver : rt_code mX3_standsOver = cX3_standsOver := rfl
theorem ow_X3_standsOver : rt_own mX3_standsOver = 3 := rfl
theorem co_X3_allows : rt_code mX3_allows = cX3_allows := rfl
theorem ow_X3_allows : rt_own mX3_allows = 3 := rfl
theorem co_X3_perform : rt_code mX3_perform = cX3_perform := rfl
theorem ow_X3_perform : rt_own mX3_perform = 3 := rfl
theorem co_X3_move : rt_code mX3_move = cX3_move := rfl
theorem ow_X3_move : rt_own mX3_move = 3 := rfl
theorem co_X3_takeBack : rt_code mX3_takeBack = cX3_takeBack := rfl
theorem ow_X3_takeBack : rt_own mX3_takeBack = 3 := rfl
theorem co_X3_partOfEvent : rt_code mX3_partOfEvent = cX3_partOfEvent := rfl
theorem ow_X3_partOfEvent : rt_own mX3_partOfEvent = 3 := rfl
theorem co_X3_placeBehind : rt_code mX3_placeBehind = cX3_placeBehind := rfl
theorem ow_X3_placeBehind : rt_own mX3_placeBehind = 3 := rfl
theorem co_X3_eventsOf : rt_code mX3_eventsOf = cX3_eventsOf := rfl
theorem ow_X3_eventsOf : rt_own mX3_eventsOf = 3 := rfl
theorem co_X3_lastMoved : rt_code mX3_lastMoved = cX3_lastMoved := rfl
theorem ow_X3_lastMoved : rt_own mX3_lastMoved = 3 := rfl
theorem co_X3_allOf : rt_code mX3_allOf = cX3_allOf := rfl
theorem ow_X3_allOf : rt_own mX3_allOf = 3 := rfl
theorem co_X3_looks : rt_code mX3_looks = cX3_looks := rfl
theorem ow_X3_looks : rt_own mX3_looks = 3 := rfl
theorem co_X3_related : rt_code mX3_related = cX3_related := rfl
theorem ow_X3_related : rt_own mX3_related = 3 := rfl
theorem co_X4_init : rt_code mX4_init = cX4_init := rfl
theorem ow_X4_init : rt_own mX4_init = 4 := rfl
theorem co_X4_atHand : rt_code mX4_atHand = cX4_atHand := rfl
theorem ow_X4_atHand : rt_own mX4_atHand = 4 := rfl
theorem co_X4_putAway : rt_code mX4_putAway = cX4_putAway := rfl
theorem ow_X4_putAway : rt_own mX4_putAway = 4 := rfl
theorem co_X4_hasReading : rt_code mX4_hasReading = cX4_hasReading := rfl
theorem ow_X4_hasReading : rt_own mX4_hasReading = 4 := rfl
theorem co_X4_verb : rt_code mX4_verb = cX4_verb := rfl
theorem ow_X4_verb : rt_own mX4_verb = 4 := rfl
theorem co_X4_denies : rt_code mX4_denies = cX4_denies := rfl
theorem ow_X4_denies : rt_own mX4_denies = 4 := rfl
theorem co_X4_goesDown : rt_code mX4_goesDown = cX4_goesDown := rfl
theorem ow_X4_goesDown : rt_own mX4_goesDown = 4 := rfl
theorem co_X4_isBidden : rt_code mX4_isBidden = cX4_isBidden := rfl
theorem ow_X4_isBidden : rt_own mX4_isBidden = 4 := rfl
theorem co_X4_isAsked : rt_code mX4_isAsked = cX4_isAsked := rfl
theorem ow_X4_isAsked : rt_own mX4_isAsked = 4 := rfl
theorem co_X4_wLength : rt_code mX4_wLength = cX4_wLength := rfl
theorem ow_X4_wLength : rt_own mX4_wLength = 4 := rfl
theorem co_X4_wLetter : rt_code mX4_wLetter = cX4_wLetter := rfl
theorem ow_X4_wLetter : rt_own mX4_wLetter = 4 := rfl
theorem co_X4_size : rt_code mX4_size = cX4_size := rfl
theorem ow_X4_size : rt_own mX4_size = 4 := rfl
theorem co_X4_hear : rt_code mX4_hear = cX4_hear := rfl
theorem ow_X4_hear : rt_own mX4_hear = 4 := rfl
theorem co_X4_faultAt : rt_code mX4_faultAt = cX4_faultAt := rfl
theorem ow_X4_faultAt : rt_own mX4_faultAt = 4 := rfl
theorem co_X4_restart : rt_code mX4_restart = cX4_restart := rfl
theorem ow_X4_restart : rt_own mX4_restart = 4 := rfl
theorem co_X4_endsWord : rt_code mX4_endsWord = cX4_endsWord := rfl
theorem ow_X4_endsWord : rt_own mX4_endsWord = 4 := rfl
theorem co_X4_hearWord : rt_code mX4_hearWord = cX4_hearWord := rfl
theorem ow_X4_hearWord : rt_own mX4_hearWord = 4 := rfl
theorem co_X4_meansStands : rt_code mX4_meansStands = cX4_meansStands := rfl
theorem ow_X4_meansStands : rt_own mX4_meansStands = 4 := rfl
theorem co_X4_keepW : rt_code mX4_keepW = cX4_keepW := rfl
theorem ow_X4_keepW : rt_own mX4_keepW = 4 := rfl
theorem co_X4_isOnward : rt_code mX4_isOnward = cX4_isOnward := rfl
theorem ow_X4_isOnward : rt_own mX4_isOnward = 4 := rfl
theorem co_X4_goOn : rt_code mX4_goOn = cX4_goOn := rfl
theorem ow_X4_goOn : rt_own mX4_goOn = 4 := rfl
theorem co_X4_begin : rt_code mX4_begin = cX4_begin := rfl
theorem ow_X4_begin : rt_own mX4_begin = 4 := rfl
theorem co_X4_beginBare : rt_code mX4_beginBare = cX4_beginBare := rfl
theorem ow_X4_beginBare : rt_own mX4_beginBare = 4 := rfl
theorem co_X4_goOnNp : rt_code mX4_goOnNp = cX4_goOnNp := rfl
theorem ow_X4_goOnNp : rt_own mX4_goOnNp = 4 := rfl
theorem co_X4_goOnN : rt_code mX4_goOnN = cX4_goOnN := rfl
theorem ow_X4_goOnN : rt_own mX4_goOnN = 4 := rfl
theorem co_X4_goOnBehindNp : rt_code mX4_goOnBehindNp = cX4_goOnBehindNp := rfl
theorem ow_X4_goOnBehindNp : rt_own mX4_goOnBehindNp = 4 := rfl
theorem co_X4_canEnd : rt_code mX4_canEnd = cX4_canEnd := rfl
theorem ow_X4_canEnd : rt_own mX4_canEnd = 4 := rfl
theorem co_X5_init : rt_code mX5_init = cX5_init := rfl
theorem ow_X5_init : rt_own mX5_init = 5 := rfl
theorem co_X5_meantBy : rt_code mX5_meantBy = cX5_meantBy := rfl
theorem ow_X5_meantBy : rt_own mX5_meantBy = 5 := rfl
theorem co_X5_troubleKind : rt_code mX5_troubleKind = cX5_troubleKind := rfl
theorem ow_X5_troubleKind : rt_own mX5_troubleKind = 5 := rfl
theorem co_X5_troubleNp : rt_code mX5_troubleNp = cX5_troubleNp := rfl
theorem ow_X5_troubleNp : rt_own mX5_troubleNp = 5 := rfl
theorem co_X5_mover : rt_code mX5_mover = cX5_mover := rfl
theorem ow_X5_mover : rt_own mX5_mover = 5 := rfl
theorem co_X5_goal : rt_code mX5_goal = cX5_goal := rfl
theorem ow_X5_goal : rt_own mX5_goal = 5 := rfl
theorem co_X5_meantByTold : rt_code mX5_meantByTold = cX5_meantByTold := rfl
theorem ow_X5_meantByTold : rt_own mX5_meantByTold = 5 := rfl
theorem co_X5_weighOne : rt_code mX5_weighOne = cX5_weighOne := rfl
theorem ow_X5_weighOne : rt_own mX5_weighOne = 5 := rfl
theorem co_X5_choose : rt_code mX5_choose = cX5_choose := rfl
theorem ow_X5_choose : rt_own mX5_choose = 5 := rfl
theorem co_X5_refreshTold : rt_code mX5_refreshTold = cX5_refreshTold := rfl
theorem ow_X5_refreshTold : rt_own mX5_refreshTold = 5 := rfl
theorem co_X5_weigh : rt_code mX5_weigh = cX5_weigh := rfl
theorem ow_X5_weigh : rt_own mX5_weigh = 5 := rfl
theorem co_X5_linkAll : rt_code mX5_linkAll = cX5_linkAll := rfl
theorem ow_X5_linkAll : rt_own mX5_linkAll = 5 := rfl
theorem co_X5_lookAlone : rt_code mX5_lookAlone = cX5_lookAlone := rfl
theorem ow_X5_lookAlone : rt_own mX5_lookAlone = 5 := rfl
theorem co_X5_meantAlone : rt_code mX5_meantAlone = cX5_meantAlone := rfl
theorem ow_X5_meantAlone : rt_own mX5_meantAlone = 5 := rfl
theorem co_X5_justThis : rt_code mX5_justThis = cX5_justThis := rfl
theorem ow_X5_justThis : rt_own mX5_justThis = 5 := rfl
theorem co_X5_meantByNoun : rt_code mX5_meantByNoun = cX5_meantByNoun := rfl
theorem ow_X5_meantByNoun : rt_own mX5_meantByNoun = 5 := rfl
theorem co_X5_thoseLooking : rt_code mX5_thoseLooking = cX5_thoseLooking := rfl
theorem ow_X5_thoseLooking : rt_own mX5_thoseLooking = 5 := rfl
theorem co_X5_troubleOfNp : rt_code mX5_troubleOfNp = cX5_troubleOfNp := rfl
theorem ow_X5_troubleOfNp : rt_own mX5_troubleOfNp = 5 := rfl
theorem co_X5_canBeDone : rt_code mX5_canBeDone = cX5_canBeDone := rfl
theorem ow_X5_canBeDone : rt_own mX5_canBeDone = 5 := rfl
theorem co_X5_lowestToMove : rt_code mX5_lowestToMove = cX5_lowestToMove := rfl
theorem ow_X5_lowestToMove : rt_own mX5_lowestToMove = 5 := rfl
theorem co_X5_goalOf : rt_code mX5_goalOf = cX5_goalOf := rfl
theorem ow_X5_goalOf : rt_own mX5_goalOf = 5 := rfl
theorem co_X5_upshotOf : rt_code mX5_upshotOf = cX5_upshotOf := rfl
theorem ow_X5_upshotOf : rt_own mX5_upshotOf = 5 := rfl
theorem co_X5_answerFor : rt_code mX5_answerFor = cX5_answerFor := rfl
theorem ow_X5_answerFor : rt_own mX5_answerFor = 5 := rfl
theorem co_X6_init : rt_code mX6_init = cX6_init := rfl
theorem ow_X6_init : rt_own mX6_init = 6 := rfl
theorem co_X6_length : rt_code mX6_length = cX6_length := rfl
theorem ow_X6_length : rt_own mX6_length = 6 := rfl
theorem co_X6_clear : rt_code mX6_clear = cX6_clear := rfl
theorem ow_X6_clear : rt_own mX6_clear = 6 := rfl
theorem co_X6_part : rt_code mX6_part = cX6_part := rfl
theorem ow_X6_part : rt_own mX6_part = 6 := rfl
theorem co_X6_build : rt_code mX6_build = cX6_build := rfl
theorem ow_X6_build : rt_own mX6_build = 6 := rfl
theorem co_X6_bring : rt_code mX6_bring = cX6_bring := rfl
theorem ow_X6_bring : rt_own mX6_bring = 6 := rfl
theorem co_X6_clearOver : rt_code mX6_clearOver = cX6_clearOver := rfl
theorem ow_X6_clearOver : rt_own mX6_clearOver = 6 := rfl
theorem co_X6_add : rt_code mX6_add = cX6_add := rfl
theorem ow_X6_add : rt_own mX6_add = 6 := rfl
theorem co_X7_init : rt_code mX7_init = cX7_init := rfl
theorem ow_X7_init : rt_own mX7_init = 7 := rfl
theorem co_X7_length : rt_code mX7_length = cX7_length := rfl
theorem ow_X7_length : rt_own mX7_length = 7 := rfl
theorem co_X7_hasRoomFor : rt_code mX7_hasRoomFor = cX7_hasRoomFor := rfl
theorem ow_X7_hasRoomFor : rt_own mX7_hasRoomFor = 7 := rfl
theorem co_X7_addNumber : rt_code mX7_addNumber = cX7_addNumber := rfl
theorem ow_X7_addNumber : rt_own mX7_addNumber = 7 := rfl
theorem co_X7_byteAt : rt_code mX7_byteAt = cX7_byteAt := rfl
theorem ow_X7_byteAt : rt_own mX7_byteAt = 7 := rfl
theorem co_X7_isLetter : rt_code mX7_isLetter = cX7_isLetter := rfl
theorem ow_X7_isLetter : rt_own mX7_isLetter = 7 := rfl
theorem co_X7_numberAt : rt_code mX7_numberAt = cX7_numberAt := rfl
theorem ow_X7_numberAt : rt_own mX7_numberAt = 7 := rfl
theorem co_X7_empty : rt_code mX7_empty = cX7_empty := rfl
theorem ow_X7_empty : rt_own mX7_empty = 7 := rfl
theorem co_X8_init : rt_code mX8_init = cX8_init := rfl
theorem ow_X8_init : rt_own mX8_init = 8 := rfl
theorem co_X8_told : rt_code mX8_told = cX8_told := rfl
theorem ow_X8_told : rt_own mX8_told = 8 := rfl
theorem co_X8_phrase : rt_code mX8_phrase = cX8_phrase := rfl
theorem ow_X8_phrase : rt_own mX8_phrase = 8 := rfl
theorem co_X8_row : rt_code mX8_row = cX8_row := rfl
theorem ow_X8_row : rt_own mX8_row = 8 := rfl
theorem co_X8_oneOf : rt_code mX8_oneOf = cX8_oneOf := rfl
theorem ow_X8_oneOf : rt_own mX8_oneOf = 8 := rfl
theorem co_X8_tell : rt_code mX8_tell = cX8_tell := rfl
theorem ow_X8_tell : rt_own mX8_tell = 8 := rfl
theorem co_X8_find : rt_code mX8_find = cX8_find := rfl
theorem ow_X8_find : rt_own mX8_find = 8 := rfl
theorem co_X8_findBasic : rt_code mX8_findBasic = cX8_findBasic := rfl
theorem ow_X8_findBasic : rt_own mX8_findBasic = 8 := rfl
theorem co_X8_isTold : rt_code mX8_isTold = cX8_isTold := rfl
theorem ow_X8_isTold : rt_own mX8_isTold = 8 := rfl
theorem co_X9_init : rt_code mX9_init = cX9_init := rfl
theorem ow_X9_init : rt_own mX9_init = 9 := rfl
theorem co_X9_thing : rt_code mX9_thing = cX9_thing := rfl
theorem ow_X9_thing : rt_own mX9_thing = 9 := rfl
theorem co_X9_act : rt_code mX9_act = cX9_act := rfl
theorem ow_X9_act : rt_own mX9_act = 9 := rfl
theorem co_X9_undo : rt_code mX9_undo = cX9_undo := rfl
theorem ow_X9_undo : rt_own mX9_undo = 9 := rfl
theorem co_X9_where : rt_code mX9_where = cX9_where := rfl
theorem ow_X9_where : rt_own mX9_where = 9 := rfl
theorem co_X9_over : rt_code mX9_over = cX9_over := rfl
theorem ow_X9_over : rt_own mX9_over = 9 := rfl
theorem co_X9_was : rt_code mX9_was = cX9_was := rfl
theorem ow_X9_was : rt_own mX9_was = 9 := rfl
theorem co_X9_event : rt_code mX9_event = cX9_event := rfl
theorem ow_X9_event : rt_own mX9_event = 9 := rfl
theorem co_X9_feed : rt_code mX9_feed = cX9_feed := rfl
theorem ow_X9_feed : rt_own mX9_feed = 9 := rfl
theorem co_X9_say : rt_code mX9_say = cX9_say := rfl
theorem ow_X9_say : rt_own mX9_say = 9 := rfl
theorem co_X9_reading : rt_code mX9_reading = cX9_reading := rfl
theorem ow_X9_reading : rt_own mX9_reading = 9 := rfl
theorem co_X9_means : rt_code mX9_means = cX9_means := rfl
theorem ow_X9_means : rt_own mX9_means = 9 := rfl
theorem co_X9_trouble : rt_code mX9_trouble = cX9_trouble := rfl
theorem ow_X9_trouble : rt_own mX9_trouble = 9 := rfl
theorem co_X9_taken : rt_code mX9_taken = cX9_taken := rfl
theorem ow_X9_taken : rt_own mX9_taken = 9 := rfl
theorem co_X9_answer : rt_code mX9_answer = cX9_answer := rfl
theorem ow_X9_answer : rt_own mX9_answer = 9 := rfl
theorem co_X9_plan : rt_code mX9_plan = cX9_plan := rfl
theorem ow_X9_plan : rt_own mX9_plan = 9 := rfl
theorem co_X9_done : rt_code mX9_done = cX9_done := rfl
theorem ow_X9_done : rt_own mX9_done = 9 := rfl
theorem co_X9_mentioned : rt_code mX9_mentioned = cX9_mentioned := rfl
theorem ow_X9_mentioned : rt_own mX9_mentioned = 9 := rfl
theorem co_X9_owned : rt_code mX9_owned = cX9_owned := rfl
theorem ow_X9_owned : rt_own mX9_owned = 9 := rfl
theorem co_X9_judge : rt_code mX9_judge = cX9_judge := rfl
theorem ow_X9_judge : rt_own mX9_judge = 9 := rfl
theorem co_X9_breaks : rt_code mX9_breaks = cX9_breaks := rfl
theorem ow_X9_breaks : rt_own mX9_breaks = 9 := rfl
theorem co_X9_acts : rt_code mX9_acts = cX9_acts := rfl
theorem ow_X9_acts : rt_own mX9_acts = 9 := rfl
theorem co_X9_noun : rt_code mX9_noun = cX9_noun := rfl
theorem ow_X9_noun : rt_own mX9_noun = 9 := rfl
theorem co_X9_check : rt_code mX9_check = cX9_check := rfl
theorem ow_X9_check : rt_own mX9_check = 9 := rfl
theorem co_X9_count : rt_code mX9_count = cX9_count := rfl
theorem ow_X9_count : rt_own mX9_count = 9 := rfl
theorem co_X9_hasRoomToDo : rt_code mX9_hasRoomToDo = cX9_hasRoomToDo := rfl
theorem ow_X9_hasRoomToDo : rt_own mX9_hasRoomToDo = 9 := rfl
theorem co_X9_carryOut : rt_code mX9_carryOut = cX9_carryOut := rfl
theorem ow_X9_carryOut : rt_own mX9_carryOut = 9 := rfl
theorem co_X9_firstWrong : rt_code mX9_firstWrong = cX9_firstWrong := rfl
theorem ow_X9_firstWrong : rt_own mX9_firstWrong = 9 := rfl
theorem co_X10_init : rt_code mX10_init = cX10_init := rfl
theorem ow_X10_init : rt_own mX10_init = 10 := rfl
theorem co_X10_in : rt_code mX10_in = cX10_in := rfl
theorem ow_X10_in : rt_own mX10_in = 10 := rfl
theorem co_X10_isThing : rt_code mX10_isThing = cX10_isThing := rfl
theorem ow_X10_isThing : rt_own mX10_isThing = 10 := rfl
theorem co_X10_thing : rt_code mX10_thing = cX10_thing := rfl
theorem ow_X10_thing : rt_own mX10_thing = 10 := rfl
theorem co_X10_above : rt_code mX10_above = cX10_above := rfl
theorem ow_X10_above : rt_own mX10_above = 10 := rfl
theorem co_X10_highest : rt_code mX10_highest = cX10_highest := rfl
theorem ow_X10_highest : rt_own mX10_highest = 10 := rfl
theorem co_X10_held : rt_code mX10_held = cX10_held := rfl
theorem ow_X10_held : rt_own mX10_held = 10 := rfl
theorem co_X10_can : rt_code mX10_can = cX10_can := rfl
theorem ow_X10_can : rt_own mX10_can = 10 := rfl
theorem co_X10_happens : rt_code mX10_happens = cX10_happens := rfl
theorem ow_X10_happens : rt_own mX10_happens = 10 := rfl
theorem co_X10_act : rt_code mX10_act = cX10_act := rfl
theorem ow_X10_act : rt_own mX10_act = 10 := rfl
theorem co_X10_undo : rt_code mX10_undo = cX10_undo := rfl
theorem ow_X10_undo : rt_own mX10_undo = 10 := rfl
theorem co_X10_where : rt_code mX10_where = cX10_where := rfl
theorem ow_X10_where : rt_own mX10_where = 10 := rfl
theorem co_X10_over : rt_code mX10_over = cX10_over := rfl
theorem ow_X10_over : rt_own mX10_over = 10 := rfl
theorem co_X10_isEvent : rt_code mX10_isEvent = cX10_isEvent := rfl
theorem ow_X10_isEvent : rt_own mX10_isEvent = 10 := rfl
theorem co_X10_was : rt_code mX10_was = cX10_was := rfl
theorem ow_X10_was : rt_own mX10_was = 10 := rfl
theorem co_X10_event : rt_code mX10_event = cX10_event := rfl
theorem ow_X10_event : rt_own mX10_event = 10 := rfl
theorem co_X10_types : rt_code mX10_types = cX10_types := rfl
theorem ow_X10_types : rt_own mX10_types = 10 := rfl
theorem co_X10_feed : rt_code mX10_feed = cX10_feed := rfl
theorem ow_X10_feed : rt_own mX10_feed = 10 := rfl
theorem co_X10_wrong : rt_code mX10_wrong = cX10_wrong := rfl
theorem ow_X10_wrong : rt_own mX10_wrong = 10 := rfl
theorem co_X10_isLetter : rt_code mX10_isLetter = cX10_isLetter := rfl
theorem ow_X10_isLetter : rt_own mX10_isLetter = 10 := rfl
theorem co_X10_readsWord : rt_code mX10_readsWord = cX10_readsWord := rfl
theorem ow_X10_readsWord : rt_own mX10_readsWord = 10 := rfl
theorem co_X10_wordNumber : rt_code mX10_wordNumber = cX10_wordNumber := rfl
theorem ow_X10_wordNumber : rt_own mX10_wordNumber = 10 := rfl
theorem co_X10_isMeansNext : rt_code mX10_isMeansNext = cX10_isMeansNext := rfl
theorem ow_X10_isMeansNext : rt_own mX10_isMeansNext = 10 := rfl
theorem co_X10_phraseBegins : rt_code mX10_phraseBegins = cX10_phraseBegins := rfl
theorem ow_X10_phraseBegins : rt_own mX10_phraseBegins = 10 := rfl
theorem co_X10_puts : rt_code mX10_puts = cX10_puts := rfl
theorem ow_X10_puts : rt_own mX10_puts = 10 := rfl
theorem co_X10_goesOnward : rt_code mX10_goesOnward = cX10_goesOnward := rfl
theorem ow_X10_goesOnward : rt_own mX10_goesOnward = 10 := rfl
theorem co_X10_takesNext : rt_code mX10_takesNext = cX10_takesNext := rfl
theorem ow_X10_takesNext : rt_own mX10_takesNext = 10 := rfl
theorem co_X10_keepsThose : rt_code mX10_keepsThose = cX10_keepsThose := rfl
theorem ow_X10_keepsThose : rt_own mX10_keepsThose = 10 := rfl
theorem co_X10_takesNoun : rt_code mX10_takesNoun = cX10_takesNoun := rfl
theorem ow_X10_takesNoun : rt_own mX10_takesNoun = 10 := rfl
theorem co_X10_takesWord : rt_code mX10_takesWord = cX10_takesWord := rfl
theorem ow_X10_takesWord : rt_own mX10_takesWord = 10 := rfl
theorem co_X10_takesFirst : rt_code mX10_takesFirst = cX10_takesFirst := rfl
theorem ow_X10_takesFirst : rt_own mX10_takesFirst = 10 := rfl
theorem co_X10_isWhole : rt_code mX10_isWhole = cX10_isWhole := rfl
theorem ow_X10_isWhole : rt_own mX10_isWhole = 10 := rfl
theorem co_X10_readsAll : rt_code mX10_readsAll = cX10_readsAll := rfl
theorem ow_X10_readsAll : rt_own mX10_readsAll = 10 := rfl
theorem co_X10_say : rt_code mX10_say = cX10_say := rfl
theorem ow_X10_say : rt_own mX10_say = 10 := rfl
theorem co_X10_everything : rt_code mX10_everything = cX10_everything := rfl
theorem ow_X10_everything : rt_own mX10_everything = 10 := rfl
theorem co_X10_bySort : rt_code mX10_bySort = cX10_bySort := rfl
theorem ow_X10_bySort : rt_own mX10_bySort = 10 := rfl
theorem co_X10_nounSet : rt_code mX10_nounSet = cX10_nounSet := rfl
theorem ow_X10_nounSet : rt_own mX10_nounSet = 10 := rfl
theorem co_X10_isSuch : rt_code mX10_isSuch = cX10_isSuch := rfl
theorem ow_X10_isSuch : rt_own mX10_isSuch = 10 := rfl
theorem co_X10_isLinked : rt_code mX10_isLinked = cX10_isLinked := rfl
theorem ow_X10_isLinked : rt_own mX10_isLinked = 10 := rfl
theorem co_X10_digitOf : rt_code mX10_digitOf = cX10_digitOf := rfl
theorem ow_X10_digitOf : rt_own mX10_digitOf = 10 := rfl
theorem co_X10_works : rt_code mX10_works = cX10_works := rfl
theorem ow_X10_works : rt_own mX10_works = 10 := rfl
theorem co_X10_narrowed : rt_code mX10_narrowed = cX10_narrowed := rfl
theorem ow_X10_narrowed : rt_own mX10_narrowed = 10 := rfl
theorem co_X10_worksTold : rt_code mX10_worksTold = cX10_worksTold := rfl
theorem ow_X10_worksTold : rt_own mX10_worksTold = 10 := rfl
theorem co_X10_worksReading : rt_code mX10_worksReading = cX10_worksReading := rfl
theorem ow_X10_worksReading : rt_own mX10_worksReading = 10 := rfl
theorem co_X10_lowest : rt_code mX10_lowest = cX10_lowest := rfl
theorem ow_X10_lowest : rt_own mX10_lowest = 10 := rfl
theorem co_X10_bits : rt_code mX10_bits = cX10_bits := rfl
theorem ow_X10_bits : rt_own mX10_bits = 10 := rfl
theorem co_X10_placeOnward : rt_code mX10_placeOnward = cX10_placeOnward := rfl
theorem ow_X10_placeOnward : rt_own mX10_placeOnward = 10 := rfl
theorem co_X10_standsOver : rt_code mX10_standsOver = cX10_standsOver := rfl
theorem ow_X10_standsOver : rt_own mX10_standsOver = 10 := rfl
theorem co_X10_toMove : rt_code mX10_toMove = cX10_toMove := rfl
theorem ow_X10_toMove : rt_own mX10_toMove = 10 := rfl
theorem co_X10_willDo : rt_code mX10_willDo = cX10_willDo := rfl
theorem ow_X10_willDo : rt_own mX10_willDo = 10 := rfl
theorem co_X10_canDo : rt_code mX10_canDo = cX10_canDo := rfl
theorem ow_X10_canDo : rt_own mX10_canDo = 10 := rfl
theorem co_X10_troubleOf : rt_code mX10_troubleOf = cX10_troubleOf := rfl
theorem ow_X10_troubleOf : rt_own mX10_troubleOf = 10 := rfl
theorem co_X10_isThere : rt_code mX10_isThere = cX10_isThere := rfl
theorem ow_X10_isThere : rt_own mX10_isThere = 10 := rfl
theorem co_X10_outcome : rt_code mX10_outcome = cX10_outcome := rfl
theorem ow_X10_outcome : rt_own mX10_outcome = 10 := rfl
theorem co_X10_takenReading : rt_code mX10_takenReading = cX10_takenReading := rfl
theorem ow_X10_takenReading : rt_own mX10_takenReading = 10 := rfl
theorem co_X10_isReading : rt_code mX10_isReading = cX10_isReading := rfl
theorem ow_X10_isReading : rt_own mX10_isReading = 10 := rfl
theorem co_X10_reading : rt_code mX10_reading = cX10_reading := rfl
theorem ow_X10_reading : rt_own mX10_reading = 10 := rfl
theorem co_X10_means : rt_code mX10_means = cX10_means := rfl
theorem ow_X10_means : rt_own mX10_means = 10 := rfl
theorem co_X10_trouble : rt_code mX10_trouble = cX10_trouble := rfl
theorem ow_X10_trouble : rt_own mX10_trouble = 10 := rfl
theorem co_X10_taken : rt_code mX10_taken = cX10_taken := rfl
theorem ow_X10_taken : rt_own mX10_taken = 10 := rfl
theorem co_X10_answer : rt_code mX10_answer = cX10_answer := rfl
theorem ow_X10_answer : rt_own mX10_answer = 10 := rfl
theorem co_X10_mindAbove : rt_code mX10_mindAbove = cX10_mindAbove := rfl
theorem ow_X10_mindAbove : rt_own mX10_mindAbove = 10 := rfl
theorem co_X10_mindHeld : rt_code mX10_mindHeld = cX10_mindHeld := rfl
theorem ow_X10_mindHeld : rt_own mX10_mindHeld = 10 := rfl
theorem co_X10_thinks : rt_code mX10_thinks = cX10_thinks := rfl
theorem ow_X10_thinks : rt_own mX10_thinks = 10 := rfl
theorem co_X10_clears : rt_code mX10_clears = cX10_clears := rfl
theorem ow_X10_clears : rt_own mX10_clears = 10 := rfl
theorem co_X10_isThereAlready : rt_code mX10_isThereAlready = cX10_isThereAlready := rfl
theorem ow_X10_isThereAlready : rt_own mX10_isThereAlready = 10 := rfl
theorem co_X10_thinksAll : rt_code mX10_thinksAll = cX10_thinksAll := rfl
theorem ow_X10_thinksAll : rt_own mX10_thinksAll = 10 := rfl
theorem co_X10_isBidden : rt_code mX10_isBidden = cX10_isBidden := rfl
theorem ow_X10_isBidden : rt_own mX10_isBidden = 10 := rfl
theorem co_X10_plan : rt_code mX10_plan = cX10_plan := rfl
theorem ow_X10_plan : rt_own mX10_plan = 10 := rfl
theorem co_X10_tellsNoun : rt_code mX10_tellsNoun = cX10_tellsNoun := rfl
theorem ow_X10_tellsNoun : rt_own mX10_tellsNoun = 10 := rfl
theorem co_X10_keepsNoun : rt_code mX10_keepsNoun = cX10_keepsNoun := rfl
theorem ow_X10_keepsNoun : rt_own mX10_keepsNoun = 10 := rfl
theorem co_X10_hasRoom : rt_code mX10_hasRoom = cX10_hasRoom := rfl
theorem ow_X10_hasRoom : rt_own mX10_hasRoom = 10 := rfl
theorem co_X10_done : rt_code mX10_done = cX10_done := rfl
theorem ow_X10_done : rt_own mX10_done = 10 := rfl
theorem co_X10_mentioned : rt_code mX10_mentioned = cX10_mentioned := rfl
theorem ow_X10_mentioned : rt_own mX10_mentioned = 10 := rfl
theorem co_X10_owned : rt_code mX10_owned = cX10_owned := rfl
theorem ow_X10_owned : rt_own mX10_owned = 10 := rfl
theorem co_X10_judge : rt_code mX10_judge = cX10_judge := rfl
theorem ow_X10_judge : rt_own mX10_judge = 10 := rfl
theorem co_X10_breaks : rt_code mX10_breaks = cX10_breaks := rfl
theorem ow_X10_breaks : rt_own mX10_breaks = 10 := rfl
theorem co_X10_acts : rt_code mX10_acts = cX10_acts := rfl
theorem ow_X10_acts : rt_own mX10_acts = 10 := rfl
theorem co_X10_noun : rt_code mX10_noun = cX10_noun := rfl
theorem ow_X10_noun : rt_own mX10_noun = 10 := rfl
theorem co_X10_tapeNumber : rt_code mX10_tapeNumber = cX10_tapeNumber := rfl
theorem ow_X10_tapeNumber : rt_own mX10_tapeNumber = 10 := rfl
theorem co_X10_check : rt_code mX10_check = cX10_check := rfl
theorem ow_X10_check : rt_own mX10_check = 10 := rfl
theorem co_X10_count : rt_code mX10_count = cX10_count := rfl
theorem ow_X10_count : rt_own mX10_count = 10 := rfl
theorem co_J6_numberOfTrailingZeros_0f7a4 : rt_code mJ6_numberOfTrailingZeros_0f7a4 = cJ6_numberOfTrailingZeros_0f7a4 := rfl
theorem ow_J6_numberOfTrailingZeros_0f7a4 : rt_own mJ6_numberOfTrailingZeros_0f7a4 = 11 := rfl
theorem co_J6_bitCount_0f7a4 : rt_code mJ6_bitCount_0f7a4 = cJ6_bitCount_0f7a4 := rfl
theorem ow_J6_bitCount_0f7a4 : rt_own mJ6_bitCount_0f7a4 = 11 := rfl
theorem co_J9_min_7cf53 : rt_code mJ9_min_7cf53 = cJ9_min_7cf53 := rfl
theorem ow_J9_min_7cf53 : rt_own mJ9_min_7cf53 = 12 := rfl
