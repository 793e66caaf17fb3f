/-! entries of the tables, read -/
theorem fl_6_9 : fl 6 9 = some (6, 0, 184) := by decide +kernel
theorem fl_11_28 : fl 11 28 = some (6, 0, 185) := by decide +kernel
theorem fl_6_15 : fl 6 15 = some (6, 1, 186) := by decide +kernel
theorem fl_6_19 : fl 6 19 = some (6, 2, 187) := by decide +kernel
theorem fl_6_22 : fl 6 22 = some (6, 3, 188) := by decide +kernel
theorem fl_1_31 : fl 1 31 = some (6, 3, 189) := by decide +kernel
theorem fl_10_34 : fl 10 34 = some (6, 3, 190) := by decide +kernel
theorem fl_6_25 : fl 6 25 = some (6, 4, 191) := by decide +kernel
theorem fl_10_38 : fl 10 38 = some (6, 4, 192) := by decide +kernel
theorem fl_1_37 : fl 1 37 = some (6, 4, 193) := by decide +kernel
theorem fl_6_28 : fl 6 28 = some (6, 5, 194) := by decide +kernel
theorem fl_1_34 : fl 1 34 = some (6, 5, 195) := by decide +kernel
theorem fl_10_45 : fl 10 45 = some (6, 5, 196) := by decide +kernel
theorem fl_6_31 : fl 6 31 = some (6, 6, 197) := by decide +kernel
theorem fl_1_76 : fl 1 76 = some (6, 6, 198) := by decide +kernel
theorem fl_10_164 : fl 10 164 = some (6, 6, 199) := by decide +kernel
theorem fl_6_34 : fl 6 34 = some (6, 7, 200) := by decide +kernel
theorem fl_11_132 : fl 11 132 = some (6, 7, 201) := by decide +kernel
theorem fl_6_37 : fl 6 37 = some (6, 8, 202) := by decide +kernel
theorem fl_11_135 : fl 11 135 = some (6, 8, 203) := by decide +kernel
theorem fl_1_12 : fl 1 12 = some (1, 0, 224) := by decide +kernel
theorem fl_10_18 : fl 10 18 = some (1, 0, 225) := by decide +kernel
theorem fl_11_21 : fl 11 21 = some (1, 0, 226) := by decide +kernel
theorem fl_1_18 : fl 1 18 = some (1, 1, 227) := by decide +kernel
theorem fl_10_135 : fl 10 135 = some (1, 1, 228) := by decide +kernel
theorem fl_10_12 : fl 10 12 = some (10, 0, 234) := by decide +kernel
theorem fl_11_16 : fl 11 16 = some (10, 0, 235) := by decide +kernel
theorem fl_10_22 : fl 10 22 = some (10, 1, 236) := by decide +kernel
theorem fl_0_9 : fl 0 9 = some (0, 0, 248) := by decide +kernel
theorem fl_5_94 : fl 5 94 = some (0, 0, 249) := by decide +kernel
theorem fl_0_15 : fl 0 15 = some (0, 1, 250) := by decide +kernel
theorem fl_1_22 : fl 1 22 = some (0, 1, 251) := by decide +kernel
theorem fl_9_65 : fl 9 65 = some (0, 1, 252) := by decide +kernel
theorem fl_10_130 : fl 10 130 = some (0, 1, 253) := by decide +kernel
theorem fl_5_125 : fl 5 125 = some (0, 1, 254) := by decide +kernel
theorem fl_9_55 : fl 9 55 = some (9, 0, 277) := by decide +kernel
theorem fl_10_75 : fl 10 75 = some (9, 0, 278) := by decide +kernel
theorem fl_11_129 : fl 11 129 = some (9, 0, 279) := by decide +kernel
theorem fl_9_13 : fl 9 13 = some (9, 1, 280) := by decide +kernel
theorem fl_4_28 : fl 4 28 = some (9, 1, 281) := by decide +kernel
theorem fl_2_45 : fl 2 45 = some (9, 1, 282) := by decide +kernel
theorem fl_10_81 : fl 10 81 = some (9, 1, 283) := by decide +kernel
theorem fl_5_36 : fl 5 36 = some (9, 1, 284) := by decide +kernel
theorem fl_11_138 : fl 11 138 = some (9, 1, 285) := by decide +kernel
theorem fl_9_18 : fl 9 18 = some (9, 2, 286) := by decide +kernel
theorem fl_11_152 : fl 11 152 = some (9, 2, 287) := by decide +kernel
theorem fl_10_170 : fl 10 170 = some (9, 2, 288) := by decide +kernel
theorem fl_9_21 : fl 9 21 = some (9, 3, 289) := by decide +kernel
theorem fl_7_31 : fl 7 31 = some (9, 3, 290) := by decide +kernel
theorem fl_10_95 : fl 10 95 = some (9, 3, 291) := by decide +kernel
theorem fl_9_24 : fl 9 24 = some (9, 4, 292) := by decide +kernel
theorem fl_5_65 : fl 5 65 = some (9, 4, 293) := by decide +kernel
theorem fl_10_105 : fl 10 105 = some (9, 4, 294) := by decide +kernel
theorem fl_11_168 : fl 11 168 = some (9, 4, 295) := by decide +kernel
theorem fl_9_27 : fl 9 27 = some (9, 5, 296) := by decide +kernel
theorem fl_7_44 : fl 7 44 = some (9, 5, 297) := by decide +kernel
theorem fl_10_108 : fl 10 108 = some (9, 5, 298) := by decide +kernel
theorem fl_9_30 : fl 9 30 = some (9, 6, 299) := by decide +kernel
theorem fl_5_74 : fl 5 74 = some (9, 6, 300) := by decide +kernel
theorem fl_10_114 : fl 10 114 = some (9, 6, 301) := by decide +kernel
theorem fl_9_33 : fl 9 33 = some (9, 7, 302) := by decide +kernel
theorem fl_5_77 : fl 5 77 = some (9, 7, 303) := by decide +kernel
theorem fl_10_117 : fl 10 117 = some (9, 7, 304) := by decide +kernel
theorem fl_9_36 : fl 9 36 = some (9, 8, 305) := by decide +kernel
theorem fl_5_44 : fl 5 44 = some (9, 8, 306) := by decide +kernel
theorem fl_10_120 : fl 10 120 = some (9, 8, 307) := by decide +kernel
theorem fl_9_42 : fl 9 42 = some (9, 9, 308) := by decide +kernel
theorem fl_5_90 : fl 5 90 = some (9, 9, 309) := by decide +kernel
theorem fl_10_126 : fl 10 126 = some (9, 9, 310) := by decide +kernel
theorem fl_9_46 : fl 9 46 = some (9, 10, 311) := by decide +kernel
theorem fl_5_99 : fl 5 99 = some (9, 10, 312) := by decide +kernel
theorem fl_10_123 : fl 10 123 = some (9, 10, 313) := by decide +kernel
theorem fl_9_49 : fl 9 49 = some (9, 11, 314) := by decide +kernel
theorem fl_5_102 : fl 5 102 = some (9, 11, 315) := by decide +kernel
theorem fl_10_142 : fl 10 142 = some (9, 11, 316) := by decide +kernel
theorem fl_9_68 : fl 9 68 = some (9, 12, 317) := by decide +kernel
theorem fl_5_33 : fl 5 33 = some (9, 12, 318) := by decide +kernel
theorem fl_10_151 : fl 10 151 = some (9, 12, 319) := by decide +kernel
theorem fl_9_71 : fl 9 71 = some (9, 13, 320) := by decide +kernel
theorem fl_5_50 : fl 5 50 = some (9, 13, 321) := by decide +kernel
theorem fl_10_154 : fl 10 154 = some (9, 13, 322) := by decide +kernel
theorem fl_9_74 : fl 9 74 = some (9, 14, 323) := by decide +kernel
theorem fl_10_157 : fl 10 157 = some (9, 14, 324) := by decide +kernel
theorem fl_11_301 : fl 11 301 = some (9, 14, 325) := by decide +kernel
theorem fl_9_77 : fl 9 77 = some (9, 15, 326) := by decide +kernel
theorem fl_5_28 : fl 5 28 = some (9, 15, 327) := by decide +kernel
theorem fl_8_9 : fl 8 9 = some (8, 0, 373) := by decide +kernel
theorem fl_8_15 : fl 8 15 = some (8, 1, 374) := by decide +kernel
theorem fl_5_115 : fl 5 115 = some (8, 1, 375) := by decide +kernel
theorem fl_8_19 : fl 8 19 = some (8, 2, 376) := by decide +kernel
theorem fl_5_84 : fl 5 84 = some (8, 2, 377) := by decide +kernel
theorem fl_8_22 : fl 8 22 = some (8, 3, 378) := by decide +kernel
theorem fl_5_87 : fl 5 87 = some (8, 3, 379) := by decide +kernel
theorem fl_8_25 : fl 8 25 = some (8, 4, 380) := by decide +kernel
theorem fl_5_122 : fl 5 122 = some (8, 4, 381) := by decide +kernel
theorem fl_5_12 : fl 5 12 = some (5, 0, 393) := by decide +kernel
theorem fl_7_27 : fl 7 27 = some (7, 0, 404) := by decide +kernel
theorem fl_4_19 : fl 4 19 = some (7, 0, 405) := by decide +kernel
theorem fl_5_22 : fl 5 22 = some (7, 0, 406) := by decide +kernel
theorem fl_2_60 : fl 2 60 = some (7, 0, 407) := by decide +kernel
theorem fl_11_141 : fl 11 141 = some (7, 0, 408) := by decide +kernel
theorem fl_8_80 : fl 8 80 = some (7, 0, 409) := by decide +kernel
theorem fl_7_9 : fl 7 9 = some (7, 1, 410) := by decide +kernel
theorem fl_4_33 : fl 4 33 = some (7, 1, 411) := by decide +kernel
theorem fl_8_77 : fl 8 77 = some (7, 1, 412) := by decide +kernel
theorem fl_5_112 : fl 5 112 = some (7, 1, 413) := by decide +kernel
theorem fl_11_162 : fl 11 162 = some (7, 1, 414) := by decide +kernel
theorem fl_7_15 : fl 7 15 = some (7, 2, 415) := by decide +kernel
theorem fl_4_36 : fl 4 36 = some (7, 2, 416) := by decide +kernel
theorem fl_5_68 : fl 5 68 = some (7, 2, 417) := by decide +kernel
theorem fl_2_90 : fl 2 90 = some (7, 2, 418) := by decide +kernel
theorem fl_8_72 : fl 8 72 = some (7, 2, 419) := by decide +kernel
theorem fl_11_159 : fl 11 159 = some (7, 2, 420) := by decide +kernel
theorem fl_7_21 : fl 7 21 = some (7, 3, 421) := by decide +kernel
theorem fl_4_42 : fl 4 42 = some (7, 3, 422) := by decide +kernel
theorem fl_5_71 : fl 5 71 = some (7, 3, 423) := by decide +kernel
theorem fl_11_165 : fl 11 165 = some (7, 3, 424) := by decide +kernel
theorem fl_7_24 : fl 7 24 = some (7, 4, 425) := by decide +kernel
theorem fl_4_39 : fl 4 39 = some (7, 4, 426) := by decide +kernel
theorem fl_2_73 : fl 2 73 = some (7, 4, 427) := by decide +kernel
theorem fl_5_56 : fl 5 56 = some (7, 4, 428) := by decide +kernel
theorem fl_11_171 : fl 11 171 = some (7, 4, 429) := by decide +kernel
theorem fl_3_11 : fl 3 11 = some (3, 0, 450) := by decide +kernel
theorem fl_3_17 : fl 3 17 = some (3, 1, 451) := by decide +kernel
theorem fl_3_21 : fl 3 21 = some (3, 2, 452) := by decide +kernel
theorem fl_11_126 : fl 11 126 = some (3, 2, 453) := by decide +kernel
theorem fl_2_12 : fl 2 12 = some (2, 0, 471) := by decide +kernel
theorem fl_2_21 : fl 2 21 = some (2, 1, 472) := by decide +kernel
theorem fl_2_25 : fl 2 25 = some (2, 2, 473) := by decide +kernel
theorem fl_2_29 : fl 2 29 = some (2, 3, 474) := by decide +kernel
theorem fl_11_123 : fl 11 123 = some (2, 3, 475) := by decide +kernel
theorem fl_2_33 : fl 2 33 = some (2, 4, 476) := by decide +kernel
theorem fl_11_253 : fl 11 253 = some (2, 4, 477) := by decide +kernel
theorem fl_2_36 : fl 2 36 = some (2, 5, 478) := by decide +kernel
theorem fl_11_244 : fl 11 244 = some (2, 5, 479) := by decide +kernel
theorem fl_2_39 : fl 2 39 = some (2, 6, 480) := by decide +kernel
theorem fl_2_42 : fl 2 42 = some (2, 7, 481) := by decide +kernel
theorem fl_4_9 : fl 4 9 = some (4, 0, 505) := by decide +kernel
theorem fl_11_279 : fl 11 279 = some (4, 0, 506) := by decide +kernel
theorem fl_4_15 : fl 4 15 = some (4, 1, 507) := by decide +kernel
theorem fl_11_276 : fl 11 276 = some (4, 1, 508) := by decide +kernel
theorem fl_11_10 : fl 11 10 = some (11, 0, 514) := by decide +kernel
theorem fl_11_20 : fl 11 20 = some (11, 1, 515) := by decide +kernel
theorem fl_11_27 : fl 11 27 = some (11, 2, 516) := by decide +kernel
theorem fl_11_34 : fl 11 34 = some (11, 3, 517) := by decide +kernel
theorem fl_11_37 : fl 11 37 = some (11, 4, 518) := by decide +kernel
theorem fl_11_44 : fl 11 44 = some (11, 5, 519) := by decide +kernel
theorem fl_11_51 : fl 11 51 = some (11, 6, 520) := by decide +kernel
theorem fl_11_55 : fl 11 55 = some (11, 7, 521) := by decide +kernel
theorem fl_11_61 : fl 11 61 = some (11, 8, 522) := by decide +kernel
theorem fl_11_68 : fl 11 68 = some (11, 9, 523) := by decide +kernel
theorem fl_11_72 : fl 11 72 = some (11, 10, 524) := by decide +kernel
theorem fl_11_75 : fl 11 75 = some (11, 11, 525) := by decide +kernel
theorem fl_11_82 : fl 11 82 = some (11, 12, 526) := by decide +kernel
theorem fl_11_89 : fl 11 89 = some (11, 13, 527) := by decide +kernel
theorem fl_11_96 : fl 11 96 = some (11, 14, 528) := by decide +kernel
theorem fl_11_100 : fl 11 100 = some (11, 15, 529) := by decide +kernel
theorem fl_11_104 : fl 11 104 = some (11, 16, 530) := by decide +kernel
theorem fl_12_7 : fl 12 7 = some (12, 0, 1176) := by decide +kernel
theorem fl_12_239 : fl 12 239 = some (12, 1, 1177) := by decide +kernel
theorem fl_12_248 : fl 12 248 = some (12, 2, 1178) := by decide +kernel
theorem fl_12_251 : fl 12 251 = some (12, 3, 1179) := by decide +kernel
theorem fl_12_262 : fl 12 262 = some (12, 4, 1180) := by decide +kernel
theorem fl_12_242 : fl 12 242 = some (12, 5, 1181) := by decide +kernel
theorem fl_12_245 : fl 12 245 = some (12, 6, 1182) := by decide +kernel
theorem fl_12_392 : fl 12 392 = some (12, 7, 1183) := by decide +kernel
theorem fl_12_13 : fl 12 13 = some (12, 8, 1184) := by decide +kernel
theorem fl_12_17 : fl 12 17 = some (12, 9, 1185) := by decide +kernel
theorem fl_12_20 : fl 12 20 = some (12, 10, 1186) := by decide +kernel
theorem fl_12_24 : fl 12 24 = some (12, 11, 1187) := by decide +kernel
theorem fl_12_27 : fl 12 27 = some (12, 12, 1188) := by decide +kernel
theorem fl_12_30 : fl 12 30 = some (12, 13, 1189) := by decide +kernel
theorem fl_12_33 : fl 12 33 = some (12, 14, 1190) := by decide +kernel
theorem fl_12_36 : fl 12 36 = some (12, 15, 1191) := by decide +kernel
theorem fl_12_39 : fl 12 39 = some (12, 16, 1192) := by decide +kernel
theorem fl_12_42 : fl 12 42 = some (12, 17, 1193) := by decide +kernel
theorem fl_12_45 : fl 12 45 = some (12, 18, 1194) := by decide +kernel
theorem fl_12_48 : fl 12 48 = some (12, 19, 1195) := by decide +kernel
theorem fl_12_51 : fl 12 51 = some (12, 20, 1196) := by decide +kernel
theorem fl_12_54 : fl 12 54 = some (12, 21, 1197) := by decide +kernel
theorem fl_12_57 : fl 12 57 = some (12, 22, 1198) := by decide +kernel
theorem fl_12_60 : fl 12 60 = some (12, 23, 1199) := by decide +kernel
theorem fl_12_63 : fl 12 63 = some (12, 24, 1200) := by decide +kernel
theorem fl_12_66 : fl 12 66 = some (12, 25, 1201) := by decide +kernel
theorem fl_12_69 : fl 12 69 = some (12, 26, 1202) := by decide +kernel
theorem fl_12_72 : fl 12 72 = some (12, 27, 1203) := by decide +kernel
theorem fl_12_75 : fl 12 75 = some (12, 28, 1204) := by decide +kernel
theorem fl_12_78 : fl 12 78 = some (12, 29, 1205) := by decide +kernel
theorem fl_12_81 : fl 12 81 = some (12, 30, 1206) := by decide +kernel
theorem fl_12_84 : fl 12 84 = some (12, 31, 1207) := by decide +kernel
theorem fl_12_87 : fl 12 87 = some (12, 32, 1208) := by decide +kernel
theorem fl_12_90 : fl 12 90 = some (12, 33, 1209) := by decide +kernel
theorem fl_12_93 : fl 12 93 = some (12, 34, 1210) := by decide +kernel
theorem fl_12_96 : fl 12 96 = some (12, 35, 1211) := by decide +kernel
theorem fl_12_99 : fl 12 99 = some (12, 36, 1212) := by decide +kernel
theorem fl_12_102 : fl 12 102 = some (12, 37, 1213) := by decide +kernel
theorem fl_12_105 : fl 12 105 = some (12, 38, 1214) := by decide +kernel
theorem fl_12_290 : fl 12 290 = some (12, 39, 1215) := by decide +kernel
theorem fl_12_108 : fl 12 108 = some (12, 40, 1216) := by decide +kernel
theorem fl_12_111 : fl 12 111 = some (12, 41, 1217) := by decide +kernel
theorem fl_12_115 : fl 12 115 = some (12, 42, 1218) := by decide +kernel
theorem fl_12_118 : fl 12 118 = some (12, 43, 1219) := by decide +kernel
theorem fl_12_121 : fl 12 121 = some (12, 44, 1220) := by decide +kernel
theorem fl_12_124 : fl 12 124 = some (12, 45, 1221) := by decide +kernel
theorem fl_12_127 : fl 12 127 = some (12, 46, 1222) := by decide +kernel
theorem fl_12_130 : fl 12 130 = some (12, 47, 1223) := by decide +kernel
theorem fl_12_133 : fl 12 133 = some (12, 48, 1224) := by decide +kernel
theorem fl_12_338 : fl 12 338 = some (12, 49, 1225) := by decide +kernel
theorem fl_12_365 : fl 12 365 = some (12, 50, 1226) := by decide +kernel
theorem fl_12_297 : fl 12 297 = some (12, 51, 1227) := by decide +kernel
theorem fl_12_136 : fl 12 136 = some (12, 52, 1228) := by decide +kernel
theorem fl_12_139 : fl 12 139 = some (12, 53, 1229) := by decide +kernel
theorem fl_12_437 : fl 12 437 = some (12, 54, 1230) := by decide +kernel
theorem fl_12_443 : fl 12 443 = some (12, 55, 1231) := by decide +kernel
theorem fl_12_446 : fl 12 446 = some (12, 56, 1232) := by decide +kernel
theorem fl_12_449 : fl 12 449 = some (12, 57, 1233) := by decide +kernel
theorem fl_12_458 : fl 12 458 = some (12, 58, 1234) := by decide +kernel
theorem fl_12_670 : fl 12 670 = some (12, 59, 1235) := by decide +kernel
theorem fl_12_142 : fl 12 142 = some (12, 60, 1236) := by decide +kernel
theorem fl_12_145 : fl 12 145 = some (12, 61, 1237) := by decide +kernel
theorem fl_12_148 : fl 12 148 = some (12, 62, 1238) := by decide +kernel
theorem fl_12_398 : fl 12 398 = some (12, 63, 1239) := by decide +kernel
theorem fl_12_558 : fl 12 558 = some (12, 64, 1240) := by decide +kernel
theorem fl_12_151 : fl 12 151 = some (12, 65, 1241) := by decide +kernel
theorem fl_12_401 : fl 12 401 = some (12, 66, 1242) := by decide +kernel
theorem fl_12_155 : fl 12 155 = some (12, 67, 1243) := by decide +kernel
theorem fl_12_158 : fl 12 158 = some (12, 68, 1244) := by decide +kernel
theorem fl_12_161 : fl 12 161 = some (12, 69, 1245) := by decide +kernel
theorem fl_12_164 : fl 12 164 = some (12, 70, 1246) := by decide +kernel
theorem fl_12_167 : fl 12 167 = some (12, 71, 1247) := by decide +kernel
theorem fl_12_170 : fl 12 170 = some (12, 72, 1248) := by decide +kernel
theorem fl_12_173 : fl 12 173 = some (12, 73, 1249) := by decide +kernel
theorem fl_12_176 : fl 12 176 = some (12, 74, 1250) := by decide +kernel
theorem fl_12_179 : fl 12 179 = some (12, 75, 1251) := by decide +kernel
theorem fl_12_182 : fl 12 182 = some (12, 76, 1252) := by decide +kernel
theorem fl_12_185 : fl 12 185 = some (12, 77, 1253) := by decide +kernel
theorem fl_12_188 : fl 12 188 = some (12, 78, 1254) := by decide +kernel
theorem fl_12_191 : fl 12 191 = some (12, 79, 1255) := by decide +kernel
theorem fl_12_194 : fl 12 194 = some (12, 80, 1256) := by decide +kernel
theorem fl_12_197 : fl 12 197 = some (12, 81, 1257) := by decide +kernel
theorem fl_12_200 : fl 12 200 = some (12, 82, 1258) := by decide +kernel
theorem fl_12_203 : fl 12 203 = some (12, 83, 1259) := by decide +kernel
theorem fl_12_206 : fl 12 206 = some (12, 84, 1260) := by decide +kernel
theorem fl_12_209 : fl 12 209 = some (12, 85, 1261) := by decide +kernel
theorem fl_12_212 : fl 12 212 = some (12, 86, 1262) := by decide +kernel
theorem fl_12_215 : fl 12 215 = some (12, 87, 1263) := by decide +kernel
theorem fl_12_218 : fl 12 218 = some (12, 88, 1264) := by decide +kernel
theorem fl_12_221 : fl 12 221 = some (12, 89, 1265) := by decide +kernel
theorem fl_12_224 : fl 12 224 = some (12, 90, 1266) := by decide +kernel
theorem fl_12_227 : fl 12 227 = some (12, 91, 1267) := by decide +kernel
theorem fl_12_341 : fl 12 341 = some (12, 92, 1268) := by decide +kernel
theorem fl_12_230 : fl 12 230 = some (12, 93, 1269) := by decide +kernel
theorem fl_12_344 : fl 12 344 = some (12, 94, 1270) := by decide +kernel
theorem fl_12_347 : fl 12 347 = some (12, 95, 1271) := by decide +kernel
theorem fl_12_350 : fl 12 350 = some (12, 96, 1272) := by decide +kernel
theorem fl_12_233 : fl 12 233 = some (12, 97, 1273) := by decide +kernel
theorem fl_12_416 : fl 12 416 = some (12, 98, 1274) := by decide +kernel
theorem fl_12_673 : fl 12 673 = some (12, 99, 1275) := by decide +kernel
theorem fl_12_678 : fl 12 678 = some (12, 100, 1276) := by decide +kernel
theorem fl_12_236 : fl 12 236 = some (12, 101, 1277) := by decide +kernel
theorem fl_12_694 : fl 12 694 = some (12, 102, 1278) := by decide +kernel
theorem fl_15_9 : fl 15 9 = some (13, 0, 2054) := by decide +kernel
theorem fl_15_15 : fl 15 15 = some (13, 1, 2055) := by decide +kernel
set_option maxRecDepth 100000 in
theorem ml_19_9 : ml 19 9 = some (89, 2, 0, 160) := by decide +kernel
set_option maxRecDepth 100000 in
theorem ml_11_1 : ml 11 1 = some (0, 7, 0, 163) := by decide +kernel
set_option maxRecDepth 100000 in
theorem ml_11_9 : ml 11 9 = some (78, 3, 0, 0) := by decide +kernel
set_option maxRecDepth 100000 in
theorem ml_10_3 : ml 10 3 = some (0, 7, 0, 171) := by decide +kernel
set_option maxRecDepth 100000 in
theorem ml_10_11 : ml 10 11 = some (2, 3, 0, 1) := by decide +kernel
set_option maxRecDepth 100000 in
theorem ml_1_3 : ml 1 3 = some (0, 7, 0, 177) := by decide +kernel
set_option maxRecDepth 100000 in
theorem ml_1_11 : ml 1 11 = some (40, 3, 0, 2) := by decide +kernel
set_option maxRecDepth 100000 in
theorem ml_6_3 : ml 6 3 = some (0, 7, 0, 183) := by decide +kernel
set_option maxRecDepth 100000 in
theorem ml_11_43 : ml 11 43 = some (0, 3, 0, 3) := by decide +kernel
set_option maxRecDepth 100000 in
theorem ml_0_3 : ml 0 3 = some (0, 7, 0, 247) := by decide +kernel
set_option maxRecDepth 100000 in
theorem ml_11_50 : ml 11 50 = some (70, 2, 0, 262) := by decide +kernel
set_option maxRecDepth 100000 in
theorem ml_9_3 : ml 9 3 = some (0, 7, 0, 265) := by decide +kernel
set_option maxRecDepth 100000 in
theorem ml_9_41 : ml 9 41 = some (0, 3, 0, 5) := by decide +kernel
set_option maxRecDepth 100000 in
theorem ml_9_52 : ml 9 52 = some (71, 0, 0, 270) := by decide +kernel
set_option maxRecDepth 100000 in
theorem ml_9_59 : ml 9 59 = some (287, 1, 2, 274) := by decide +kernel
set_option maxRecDepth 100000 in
theorem ml_11_60 : ml 11 60 = some (32, 3, 0, 6) := by decide +kernel
set_option maxRecDepth 100000 in
theorem ml_5_3 : ml 5 3 = some (0, 7, 0, 366) := by decide +kernel
set_option maxRecDepth 100000 in
theorem ml_5_11 : ml 5 11 = some (63, 3, 0, 7) := by decide +kernel
set_option maxRecDepth 100000 in
theorem ml_8_3 : ml 8 3 = some (0, 7, 0, 372) := by decide +kernel
set_option maxRecDepth 100000 in
theorem ml_11_67 : ml 11 67 = some (57, 3, 0, 8) := by decide +kernel
set_option maxRecDepth 100000 in
theorem ml_7_3 : ml 7 3 = some (0, 7, 0, 402) := by decide +kernel
set_option maxRecDepth 100000 in
theorem ml_11_81 : ml 11 81 = some (23, 2, 0, 444) := by decide +kernel
set_option maxRecDepth 100000 in
theorem ml_3_3 : ml 3 3 = some (0, 7, 0, 447) := by decide +kernel
set_option maxRecDepth 100000 in
theorem ml_3_24 : ml 3 24 = some (57, 3, 0, 10) := by decide +kernel
set_option maxRecDepth 100000 in
theorem ml_11_88 : ml 11 88 = some (14, 3, 0, 11) := by decide +kernel
set_option maxRecDepth 100000 in
theorem ml_2_3 : ml 2 3 = some (0, 7, 0, 466) := by decide +kernel
set_option maxRecDepth 100000 in
theorem ml_2_11 : ml 2 11 = some (32, 3, 0, 12) := by decide +kernel
set_option maxRecDepth 100000 in
theorem ml_2_20 : ml 2 20 = some (57, 3, 0, 13) := by decide +kernel
set_option maxRecDepth 100000 in
theorem ml_11_95 : ml 11 95 = some (26, 3, 0, 14) := by decide +kernel
set_option maxRecDepth 100000 in
theorem ml_4_3 : ml 4 3 = some (0, 7, 0, 504) := by decide +kernel
set_option maxRecDepth 100000 in
theorem ml_19_13 : ml 19 13 = some (90, 0, 5, 566) := by decide +kernel
set_option maxRecDepth 100000 in
theorem ml_11_107 : ml 11 107 = some (122, 0, 1, 570) := by decide +kernel
set_option maxRecDepth 100000 in
theorem ml_11_111 : ml 11 111 = some (123, 0, 1, 574) := by decide +kernel
set_option maxRecDepth 100000 in
theorem ml_19_18 : ml 19 18 = some (91, 0, 1, 578) := by decide +kernel
set_option maxRecDepth 100000 in
theorem ml_19_23 : ml 19 23 = some (92, 0, 0, 582) := by decide +kernel
set_option maxRecDepth 100000 in
theorem ml_11_115 : ml 11 115 = some (79, 0, 2, 586) := by decide +kernel
set_option maxRecDepth 100000 in
theorem ml_10_23 : ml 10 23 = some (71, 0, 0, 590) := by decide +kernel
set_option maxRecDepth 100000 in
theorem ml_10_28 : ml 10 28 = some (41, 0, 1, 591) := by decide +kernel
set_option maxRecDepth 100000 in
theorem ml_6_40 : ml 6 40 = some (280, 1, 2, 595) := by decide +kernel
set_option maxRecDepth 100000 in
theorem ml_6_46 : ml 6 46 = some (278, 1, 2, 598) := by decide +kernel
set_option maxRecDepth 100000 in
theorem ml_6_49 : ml 6 49 = some (42, 0, 0, 601) := by decide +kernel
set_option maxRecDepth 100000 in
theorem ml_6_52 : ml 6 52 = some (46, 1, 1, 605) := by decide +kernel
set_option maxRecDepth 100000 in
theorem ml_6_56 : ml 6 56 = some (47, 1, 1, 608) := by decide +kernel
set_option maxRecDepth 100000 in
theorem ml_6_60 : ml 6 60 = some (45, 0, 0, 611) := by decide +kernel
set_option maxRecDepth 100000 in
theorem ml_6_76 : ml 6 76 = some (282, 0, 0, 618) := by decide +kernel
set_option maxRecDepth 100000 in
theorem ml_15_335 : ml 15 335 = some (284, 0, 0, 622) := by decide +kernel
set_option maxRecDepth 100000 in
theorem ml_6_80 : ml 6 80 = some (283, 0, 1, 628) := by decide +kernel
set_option maxRecDepth 100000 in
theorem ml_15_492 : ml 15 492 = some (285, 0, 0, 632) := by decide +kernel
set_option maxRecDepth 100000 in
theorem ml_15_495 : ml 15 495 = some (286, 1, 2, 636) := by decide +kernel
set_option maxRecDepth 100000 in
theorem ml_16_9 : ml 16 9 = some (288, 1, 2, 639) := by decide +kernel
set_option maxRecDepth 100000 in
theorem ml_15_1059 : ml 15 1059 = some (289, 1, 3, 644) := by decide +kernel
set_option maxRecDepth 100000 in
theorem ml_6_64 : ml 6 64 = some (43, 0, 0, 666) := by decide +kernel
set_option maxRecDepth 100000 in
theorem ml_6_67 : ml 6 67 = some (44, 0, 0, 670) := by decide +kernel
set_option maxRecDepth 100000 in
theorem ml_10_41 : ml 10 41 = some (51, 0, 2, 674) := by decide +kernel
set_option maxRecDepth 100000 in
theorem ml_10_48 : ml 10 48 = some (80, 0, 1, 678) := by decide +kernel
set_option maxRecDepth 100000 in
theorem ml_10_85 : ml 10 85 = some (87, 0, 2, 682) := by decide +kernel
set_option maxRecDepth 100000 in
theorem ml_10_102 : ml 10 102 = some (42, 0, 0, 687) := by decide +kernel
set_option maxRecDepth 100000 in
theorem ml_10_160 : ml 10 160 = some (56, 0, 0, 688) := by decide +kernel
set_option maxRecDepth 100000 in
theorem ml_6_87 : ml 6 87 = some (51, 0, 2, 692) := by decide +kernel
set_option maxRecDepth 100000 in
theorem ml_6_94 : ml 6 94 = some (48, 0, 0, 693) := by decide +kernel
set_option maxRecDepth 100000 in
theorem ml_10_167 : ml 10 167 = some (76, 0, 1, 697) := by decide +kernel
set_option maxRecDepth 100000 in
theorem ml_9_86 : ml 9 86 = some (77, 0, 2, 701) := by decide +kernel
set_option maxRecDepth 100000 in
theorem ml_10_52 : ml 10 52 = some (81, 0, 1, 705) := by decide +kernel
set_option maxRecDepth 100000 in
theorem ml_10_88 : ml 10 88 = some (52, 0, 1, 709) := by decide +kernel
set_option maxRecDepth 100000 in
theorem ml_6_84 : ml 6 84 = some (49, 0, 1, 713) := by decide +kernel
set_option maxRecDepth 100000 in
theorem ml_10_91 : ml 10 91 = some (55, 0, 1, 717) := by decide +kernel
set_option maxRecDepth 100000 in
theorem ml_6_97 : ml 6 97 = some (54, 0, 0, 721) := by decide +kernel
set_option maxRecDepth 100000 in
theorem ml_10_55 : ml 10 55 = some (82, 0, 1, 725) := by decide +kernel
set_option maxRecDepth 100000 in
theorem ml_10_98 : ml 10 98 = some (88, 0, 2, 729) := by decide +kernel
set_option maxRecDepth 100000 in
theorem ml_10_173 : ml 10 173 = some (77, 0, 2, 733) := by decide +kernel
set_option maxRecDepth 100000 in
theorem ml_10_58 : ml 10 58 = some (83, 0, 1, 734) := by decide +kernel
set_option maxRecDepth 100000 in
theorem ml_10_61 : ml 10 61 = some (84, 0, 1, 738) := by decide +kernel
set_option maxRecDepth 100000 in
theorem ml_10_138 : ml 10 138 = some (4, 4, 2, 16) := by decide +kernel
set_option maxRecDepth 100000 in
theorem ml_1_54 : ml 1 54 = some (5, 0, 2, 746) := by decide +kernel
set_option maxRecDepth 100000 in
theorem ml_1_64 : ml 1 64 = some (6, 0, 2, 750) := by decide +kernel
set_option maxRecDepth 100000 in
theorem ml_1_57 : ml 1 57 = some (49, 0, 1, 754) := by decide +kernel
set_option maxRecDepth 100000 in
theorem ml_1_67 : ml 1 67 = some (11, 0, 1, 755) := by decide +kernel
set_option maxRecDepth 100000 in
theorem ml_1_40 : ml 1 40 = some (51, 0, 2, 759) := by decide +kernel
set_option maxRecDepth 100000 in
theorem ml_1_44 : ml 1 44 = some (42, 0, 0, 760) := by decide +kernel
set_option maxRecDepth 100000 in
theorem ml_1_61 : ml 1 61 = some (1, 0, 1, 761) := by decide +kernel
set_option maxRecDepth 100000 in
theorem ml_1_70 : ml 1 70 = some (50, 0, 1, 765) := by decide +kernel
set_option maxRecDepth 100000 in
theorem ml_1_47 : ml 1 47 = some (4, 0, 2, 769) := by decide +kernel
set_option maxRecDepth 100000 in
theorem ml_1_73 : ml 1 73 = some (53, 0, 1, 770) := by decide +kernel
set_option maxRecDepth 100000 in
theorem ml_6_91 : ml 6 91 = some (50, 0, 1, 774) := by decide +kernel
set_option maxRecDepth 100000 in
theorem ml_1_51 : ml 1 51 = some (7, 0, 2, 775) := by decide +kernel
set_option maxRecDepth 100000 in
theorem ml_1_79 : ml 1 79 = some (8, 0, 2, 779) := by decide +kernel
set_option maxRecDepth 100000 in
theorem ml_1_82 : ml 1 82 = some (9, 0, 2, 783) := by decide +kernel
set_option maxRecDepth 100000 in
theorem ml_1_85 : ml 1 85 = some (54, 0, 0, 787) := by decide +kernel
set_option maxRecDepth 100000 in
theorem ml_1_89 : ml 1 89 = some (10, 0, 2, 788) := by decide +kernel
set_option maxRecDepth 100000 in
theorem ml_1_92 : ml 1 92 = some (12, 0, 1, 792) := by decide +kernel
set_option maxRecDepth 100000 in
theorem ml_1_95 : ml 1 95 = some (13, 0, 1, 796) := by decide +kernel
set_option maxRecDepth 100000 in
theorem ml_10_64 : ml 10 64 = some (85, 0, 2, 800) := by decide +kernel
set_option maxRecDepth 100000 in
theorem ml_10_145 : ml 10 145 = some (73, 0, 1, 804) := by decide +kernel
set_option maxRecDepth 100000 in
theorem ml_10_148 : ml 10 148 = some (7, 4, 2, 17) := by decide +kernel
set_option maxRecDepth 100000 in
theorem ml_10_68 : ml 10 68 = some (86, 0, 1, 809) := by decide +kernel
set_option maxRecDepth 100000 in
theorem ml_10_71 : ml 10 71 = some (53, 0, 1, 813) := by decide +kernel
set_option maxRecDepth 100000 in
theorem ml_10_78 : ml 10 78 = some (72, 0, 0, 814) := by decide +kernel
set_option maxRecDepth 100000 in
theorem ml_11_119 : ml 11 119 = some (58, 0, 1, 818) := by decide +kernel
set_option maxRecDepth 100000 in
theorem ml_7_34 : ml 7 34 = some (61, 1, 2, 822) := by decide +kernel
set_option maxRecDepth 100000 in
theorem ml_7_49 : ml 7 49 = some (280, 1, 2, 825) := by decide +kernel
set_option maxRecDepth 100000 in
theorem ml_7_55 : ml 7 55 = some (0, 6, 5, 826) := by decide +kernel
set_option maxRecDepth 100000 in
theorem ml_7_38 : ml 7 38 = some (287, 1, 2, 829) := by decide +kernel
set_option maxRecDepth 100000 in
theorem ml_19_28 : ml 19 28 = some (93, 0, 1, 831) := by decide +kernel
set_option maxRecDepth 100000 in
theorem ml_19_33 : ml 19 33 = some (94, 0, 1, 835) := by decide +kernel
set_option maxRecDepth 100000 in
theorem ml_11_144 : ml 11 144 = some (129, 0, 0, 839) := by decide +kernel
set_option maxRecDepth 100000 in
theorem ml_11_177 : ml 11 177 = some (38, 0, 3, 843) := by decide +kernel
set_option maxRecDepth 100000 in
theorem ml_5_105 : ml 5 105 = some (64, 0, 5, 847) := by decide +kernel
set_option maxRecDepth 100000 in
theorem ml_8_28 : ml 8 28 = some (278, 1, 2, 851) := by decide +kernel
set_option maxRecDepth 100000 in
theorem ml_8_34 : ml 8 34 = some (65, 1, 1, 852) := by decide +kernel
set_option maxRecDepth 100000 in
theorem ml_8_38 : ml 8 38 = some (66, 1, 3, 855) := by decide +kernel
set_option maxRecDepth 100000 in
theorem ml_8_50 : ml 8 50 = some (280, 1, 2, 858) := by decide +kernel
set_option maxRecDepth 100000 in
theorem ml_8_53 : ml 8 53 = some (67, 1, 1, 859) := by decide +kernel
set_option maxRecDepth 100000 in
theorem ml_8_64 : ml 8 64 = some (281, 1, 2, 864) := by decide +kernel
set_option maxRecDepth 100000 in
theorem ml_8_67 : ml 8 67 = some (279, 1, 2, 867) := by decide +kernel
set_option maxRecDepth 100000 in
theorem ml_8_57 : ml 8 57 = some (276, 1, 2, 870) := by decide +kernel
set_option maxRecDepth 100000 in
theorem ml_8_42 : ml 8 42 = some (68, 0, 4, 873) := by decide +kernel
set_option maxRecDepth 100000 in
theorem ml_8_46 : ml 8 46 = some (69, 0, 3, 878) := by decide +kernel
set_option maxRecDepth 100000 in
theorem ml_11_207 : ml 11 207 = some (275, 1, 1, 882) := by decide +kernel
set_option maxRecDepth 100000 in
theorem ml_19_37 : ml 19 37 = some (95, 0, 3, 888) := by decide +kernel
set_option maxRecDepth 100000 in
theorem ml_11_148 : ml 11 148 = some (124, 0, 2, 892) := by decide +kernel
set_option maxRecDepth 100000 in
theorem ml_19_42 : ml 19 42 = some (96, 0, 3, 896) := by decide +kernel
set_option maxRecDepth 100000 in
theorem ml_11_155 : ml 11 155 = some (125, 0, 3, 900) := by decide +kernel
set_option maxRecDepth 100000 in
theorem ml_19_46 : ml 19 46 = some (97, 0, 2, 904) := by decide +kernel
set_option maxRecDepth 100000 in
theorem ml_19_51 : ml 19 51 = some (98, 0, 2, 908) := by decide +kernel
set_option maxRecDepth 100000 in
theorem ml_11_174 : ml 11 174 = some (74, 0, 1, 912) := by decide +kernel
set_option maxRecDepth 100000 in
theorem ml_19_55 : ml 19 55 = some (99, 0, 2, 916) := by decide +kernel
set_option maxRecDepth 100000 in
theorem ml_19_59 : ml 19 59 = some (100, 0, 3, 920) := by decide +kernel
set_option maxRecDepth 100000 in
theorem ml_11_181 : ml 11 181 = some (126, 0, 1, 924) := by decide +kernel
set_option maxRecDepth 100000 in
theorem ml_11_185 : ml 11 185 = some (59, 0, 1, 928) := by decide +kernel
set_option maxRecDepth 100000 in
theorem ml_11_189 : ml 11 189 = some (33, 0, 3, 932) := by decide +kernel
set_option maxRecDepth 100000 in
theorem ml_5_18 : ml 5 18 = some (34, 0, 2, 936) := by decide +kernel
set_option maxRecDepth 100000 in
theorem ml_5_40 : ml 5 40 = some (35, 1, 3, 940) := by decide +kernel
set_option maxRecDepth 100000 in
theorem ml_5_59 : ml 5 59 = some (275, 1, 1, 943) := by decide +kernel
set_option maxRecDepth 100000 in
theorem ml_5_47 : ml 5 47 = some (36, 0, 3, 944) := by decide +kernel
set_option maxRecDepth 100000 in
theorem ml_5_80 : ml 5 80 = some (73, 0, 1, 948) := by decide +kernel
set_option maxRecDepth 100000 in
theorem ml_5_109 : ml 5 109 = some (128, 5, 1, 19) := by decide +kernel
set_option maxRecDepth 100000 in
theorem ml_11_289 : ml 11 289 = some (280, 1, 2, 952) := by decide +kernel
set_option maxRecDepth 100000 in
theorem ml_11_292 : ml 11 292 = some (278, 1, 2, 953) := by decide +kernel
set_option maxRecDepth 100000 in
theorem ml_5_53 : ml 5 53 = some (37, 0, 3, 954) := by decide +kernel
set_option maxRecDepth 100000 in
theorem ml_19_63 : ml 19 63 = some (101, 0, 1, 958) := by decide +kernel
set_option maxRecDepth 100000 in
theorem ml_11_193 : ml 11 193 = some (34, 0, 2, 962) := by decide +kernel
set_option maxRecDepth 100000 in
theorem ml_11_197 : ml 11 197 = some (130, 1, 1, 963) := by decide +kernel
set_option maxRecDepth 100000 in
theorem ml_19_67 : ml 19 67 = some (102, 0, 3, 967) := by decide +kernel
set_option maxRecDepth 100000 in
theorem ml_19_71 : ml 19 71 = some (103, 0, 1, 971) := by decide +kernel
set_option maxRecDepth 100000 in
theorem ml_11_200 : ml 11 200 = some (60, 0, 1, 975) := by decide +kernel
set_option maxRecDepth 100000 in
theorem ml_7_45 : ml 7 45 = some (62, 1, 2, 979) := by decide +kernel
set_option maxRecDepth 100000 in
theorem ml_19_75 : ml 19 75 = some (104, 0, 6, 982) := by decide +kernel
set_option maxRecDepth 100000 in
theorem ml_11_204 : ml 11 204 = some (127, 1, 1, 986) := by decide +kernel
set_option maxRecDepth 100000 in
theorem ml_11_212 : ml 11 212 = some (277, 1, 1, 989) := by decide +kernel
set_option maxRecDepth 100000 in
theorem ml_19_80 : ml 19 80 = some (105, 0, 5, 992) := by decide +kernel
set_option maxRecDepth 100000 in
theorem ml_19_84 : ml 19 84 = some (106, 0, 3, 996) := by decide +kernel
set_option maxRecDepth 100000 in
theorem ml_19_88 : ml 19 88 = some (107, 0, 3, 1002) := by decide +kernel
set_option maxRecDepth 100000 in
theorem ml_11_221 : ml 11 221 = some (131, 0, 2, 1006) := by decide +kernel
set_option maxRecDepth 100000 in
theorem ml_19_92 : ml 19 92 = some (108, 0, 1, 1010) := by decide +kernel
set_option maxRecDepth 100000 in
theorem ml_11_225 : ml 11 225 = some (24, 0, 1, 1014) := by decide +kernel
set_option maxRecDepth 100000 in
theorem ml_3_25 : ml 3 25 = some (59, 0, 1, 1018) := by decide +kernel
set_option maxRecDepth 100000 in
theorem ml_3_29 : ml 3 29 = some (280, 1, 2, 1019) := by decide +kernel
set_option maxRecDepth 100000 in
theorem ml_19_96 : ml 19 96 = some (109, 0, 2, 1020) := by decide +kernel
set_option maxRecDepth 100000 in
theorem ml_11_228 : ml 11 228 = some (75, 0, 1, 1024) := by decide +kernel
set_option maxRecDepth 100000 in
theorem ml_9_80 : ml 9 80 = some (275, 1, 1, 1028) := by decide +kernel
set_option maxRecDepth 100000 in
theorem ml_19_100 : ml 19 100 = some (110, 0, 3, 1029) := by decide +kernel
set_option maxRecDepth 100000 in
theorem ml_19_104 : ml 19 104 = some (111, 0, 1, 1033) := by decide +kernel
set_option maxRecDepth 100000 in
theorem ml_11_231 : ml 11 231 = some (132, 0, 0, 1037) := by decide +kernel
set_option maxRecDepth 100000 in
theorem ml_11_298 : ml 11 298 = some (133, 0, 1, 1041) := by decide +kernel
set_option maxRecDepth 100000 in
theorem ml_11_304 : ml 11 304 = some (128, 1, 1, 1049) := by decide +kernel
set_option maxRecDepth 100000 in
theorem ml_19_108 : ml 19 108 = some (112, 0, 0, 1050) := by decide +kernel
set_option maxRecDepth 100000 in
theorem ml_11_234 : ml 11 234 = some (25, 0, 1, 1054) := by decide +kernel
set_option maxRecDepth 100000 in
theorem ml_19_113 : ml 19 113 = some (113, 0, 1, 1058) := by decide +kernel
set_option maxRecDepth 100000 in
theorem ml_19_117 : ml 19 117 = some (114, 0, 0, 1062) := by decide +kernel
set_option maxRecDepth 100000 in
theorem ml_11_237 : ml 11 237 = some (15, 0, 3, 1066) := by decide +kernel
set_option maxRecDepth 100000 in
theorem ml_2_50 : ml 2 50 = some (0, 6, 5, 1070) := by decide +kernel
set_option maxRecDepth 100000 in
theorem ml_19_121 : ml 19 121 = some (115, 0, 2, 1071) := by decide +kernel
set_option maxRecDepth 100000 in
theorem ml_11_241 : ml 11 241 = some (16, 0, 3, 1075) := by decide +kernel
set_option maxRecDepth 100000 in
theorem ml_2_56 : ml 2 56 = some (17, 0, 0, 1079) := by decide +kernel
set_option maxRecDepth 100000 in
theorem ml_2_80 : ml 2 80 = some (278, 1, 2, 1083) := by decide +kernel
set_option maxRecDepth 100000 in
theorem ml_2_63 : ml 2 63 = some (275, 1, 1, 1084) := by decide +kernel
set_option maxRecDepth 100000 in
theorem ml_2_69 : ml 2 69 = some (59, 0, 1, 1085) := by decide +kernel
set_option maxRecDepth 100000 in
theorem ml_2_76 : ml 2 76 = some (18, 0, 2, 1086) := by decide +kernel
set_option maxRecDepth 100000 in
theorem ml_2_86 : ml 2 86 = some (34, 0, 2, 1090) := by decide +kernel
set_option maxRecDepth 100000 in
theorem ml_11_247 : ml 11 247 = some (19, 0, 0, 1091) := by decide +kernel
set_option maxRecDepth 100000 in
theorem ml_11_250 : ml 11 250 = some (20, 0, 0, 1095) := by decide +kernel
set_option maxRecDepth 100000 in
theorem ml_19_125 : ml 19 125 = some (116, 0, 3, 1099) := by decide +kernel
set_option maxRecDepth 100000 in
theorem ml_11_256 : ml 11 256 = some (21, 0, 4, 1103) := by decide +kernel
set_option maxRecDepth 100000 in
theorem ml_2_93 : ml 2 93 = some (33, 0, 3, 1107) := by decide +kernel
set_option maxRecDepth 100000 in
theorem ml_11_260 : ml 11 260 = some (22, 0, 1, 1108) := by decide +kernel
set_option maxRecDepth 100000 in
theorem ml_2_97 : ml 2 97 = some (287, 1, 2, 1112) := by decide +kernel
set_option maxRecDepth 100000 in
theorem ml_2_103 : ml 2 103 = some (128, 5, 1, 20) := by decide +kernel
set_option maxRecDepth 100000 in
theorem ml_19_129 : ml 19 129 = some (117, 0, 1, 1114) := by decide +kernel
set_option maxRecDepth 100000 in
theorem ml_11_265 : ml 11 265 = some (3, 0, 2, 1119) := by decide +kernel
set_option maxRecDepth 100000 in
theorem ml_1_27 : ml 1 27 = some (41, 0, 1, 1123) := by decide +kernel
set_option maxRecDepth 100000 in
theorem ml_11_269 : ml 11 269 = some (134, 0, 2, 1124) := by decide +kernel
set_option maxRecDepth 100000 in
theorem ml_11_317 : ml 11 317 = some (39, 0, 4, 1129) := by decide +kernel
set_option maxRecDepth 100000 in
theorem ml_5_118 : ml 5 118 = some (38, 0, 3, 1133) := by decide +kernel
set_option maxRecDepth 100000 in
theorem ml_11_321 : ml 11 321 = some (279, 1, 2, 1134) := by decide +kernel
set_option maxRecDepth 100000 in
theorem ml_11_324 : ml 11 324 = some (281, 1, 2, 1135) := by decide +kernel
set_option maxRecDepth 100000 in
theorem ml_19_134 : ml 19 134 = some (118, 0, 0, 1136) := by decide +kernel
set_option maxRecDepth 100000 in
theorem ml_11_273 : ml 11 273 = some (27, 0, 2, 1140) := by decide +kernel
set_option maxRecDepth 100000 in
theorem ml_4_24 : ml 4 24 = some (28, 0, 1, 1144) := by decide +kernel
set_option maxRecDepth 100000 in
theorem ml_4_45 : ml 4 45 = some (29, 1, 2, 1148) := by decide +kernel
set_option maxRecDepth 100000 in
theorem ml_19_138 : ml 19 138 = some (119, 0, 1, 1151) := by decide +kernel
set_option maxRecDepth 100000 in
theorem ml_19_142 : ml 19 142 = some (120, 0, 0, 1155) := by decide +kernel
set_option maxRecDepth 100000 in
theorem ml_11_282 : ml 11 282 = some (30, 1, 3, 1159) := by decide +kernel
set_option maxRecDepth 100000 in
theorem ml_4_49 : ml 4 49 = some (75, 0, 1, 1162) := by decide +kernel
set_option maxRecDepth 100000 in
theorem ml_11_285 : ml 11 285 = some (31, 1, 3, 1163) := by decide +kernel
set_option maxRecDepth 100000 in
theorem ml_19_146 : ml 19 146 = some (121, 0, 1, 1166) := by decide +kernel
set_option maxRecDepth 100000 in
theorem ml_19_12 : ml 19 12 = some (135, 2, 0, 1172) := by decide +kernel
set_option maxRecDepth 100000 in
theorem ml_12_1 : ml 12 1 = some (0, 7, 0, 1175) := by decide +kernel
set_option maxRecDepth 100000 in
theorem ml_19_17 : ml 19 17 = some (137, 0, 5, 1488) := by decide +kernel
set_option maxRecDepth 100000 in
theorem ml_19_22 : ml 19 22 = some (138, 0, 1, 1492) := by decide +kernel
set_option maxRecDepth 100000 in
theorem ml_19_27 : ml 19 27 = some (167, 0, 0, 1496) := by decide +kernel
set_option maxRecDepth 100000 in
theorem ml_12_254 : ml 12 254 = some (142, 0, 0, 1500) := by decide +kernel
set_option maxRecDepth 100000 in
theorem ml_12_389 : ml 12 389 = some (166, 0, 0, 1504) := by decide +kernel
set_option maxRecDepth 100000 in
theorem ml_12_272 : ml 12 272 = some (139, 0, 2, 1508) := by decide +kernel
set_option maxRecDepth 100000 in
theorem ml_12_269 : ml 12 269 = some (144, 0, 1, 1512) := by decide +kernel
set_option maxRecDepth 100000 in
theorem ml_12_265 : ml 12 265 = some (143, 0, 1, 1516) := by decide +kernel
set_option maxRecDepth 100000 in
theorem ml_12_258 : ml 12 258 = some (140, 1, 1, 1520) := by decide +kernel
set_option maxRecDepth 100000 in
theorem ml_12_368 : ml 12 368 = some (157, 0, 1, 1523) := by decide +kernel
set_option maxRecDepth 100000 in
theorem ml_12_308 : ml 12 308 = some (152, 0, 3, 1527) := by decide +kernel
set_option maxRecDepth 100000 in
theorem ml_12_312 : ml 12 312 = some (154, 0, 0, 1531) := by decide +kernel
set_option maxRecDepth 100000 in
theorem ml_12_300 : ml 12 300 = some (150, 0, 0, 1535) := by decide +kernel
set_option maxRecDepth 100000 in
theorem ml_12_286 : ml 12 286 = some (149, 0, 0, 1539) := by decide +kernel
set_option maxRecDepth 100000 in
theorem ml_12_304 : ml 12 304 = some (153, 0, 2, 1545) := by decide +kernel
set_option maxRecDepth 100000 in
theorem ml_12_315 : ml 12 315 = some (156, 0, 2, 1549) := by decide +kernel
set_option maxRecDepth 100000 in
theorem ml_12_371 : ml 12 371 = some (158, 0, 1, 1553) := by decide +kernel
set_option maxRecDepth 100000 in
theorem ml_12_319 : ml 12 319 = some (145, 0, 1, 1557) := by decide +kernel
set_option maxRecDepth 100000 in
theorem ml_12_323 : ml 12 323 = some (148, 0, 2, 1561) := by decide +kernel
set_option maxRecDepth 100000 in
theorem ml_12_279 : ml 12 279 = some (141, 1, 1, 1565) := by decide +kernel
set_option maxRecDepth 100000 in
theorem ml_12_282 : ml 12 282 = some (136, 1, 3, 1568) := by decide +kernel
set_option maxRecDepth 100000 in
theorem ml_12_374 : ml 12 374 = some (160, 0, 1, 1571) := by decide +kernel
set_option maxRecDepth 100000 in
theorem ml_12_334 : ml 12 334 = some (159, 0, 1, 1575) := by decide +kernel
set_option maxRecDepth 100000 in
theorem ml_12_327 : ml 12 327 = some (186, 1, 1, 1579) := by decide +kernel
set_option maxRecDepth 100000 in
theorem ml_12_331 : ml 12 331 = some (155, 0, 1, 1582) := by decide +kernel
set_option maxRecDepth 100000 in
theorem ml_12_377 : ml 12 377 = some (161, 0, 1, 1586) := by decide +kernel
set_option maxRecDepth 100000 in
theorem ml_12_380 : ml 12 380 = some (165, 0, 1, 1590) := by decide +kernel
set_option maxRecDepth 100000 in
theorem ml_12_353 : ml 12 353 = some (163, 0, 1, 1594) := by decide +kernel
set_option maxRecDepth 100000 in
theorem ml_12_362 : ml 12 362 = some (255, 0, 0, 1598) := by decide +kernel
set_option maxRecDepth 100000 in
theorem ml_12_622 : ml 12 622 = some (239, 0, 2, 1602) := by decide +kernel
set_option maxRecDepth 100000 in
theorem ml_12_646 : ml 12 646 = some (252, 0, 0, 1606) := by decide +kernel
set_option maxRecDepth 100000 in
theorem ml_12_604 : ml 12 604 = some (238, 0, 1, 1610) := by decide +kernel
set_option maxRecDepth 100000 in
theorem ml_12_356 : ml 12 356 = some (251, 0, 0, 1614) := by decide +kernel
set_option maxRecDepth 100000 in
theorem ml_12_640 : ml 12 640 = some (249, 0, 0, 1618) := by decide +kernel
set_option maxRecDepth 100000 in
theorem ml_12_619 : ml 12 619 = some (246, 0, 2, 1622) := by decide +kernel
set_option maxRecDepth 100000 in
theorem ml_12_613 : ml 12 613 = some (245, 0, 0, 1626) := by decide +kernel
set_option maxRecDepth 100000 in
theorem ml_12_616 : ml 12 616 = some (151, 0, 1, 1630) := by decide +kernel
set_option maxRecDepth 100000 in
theorem ml_12_386 : ml 12 386 = some (147, 0, 1, 1634) := by decide +kernel
set_option maxRecDepth 100000 in
theorem ml_12_276 : ml 12 276 = some (146, 0, 1, 1638) := by decide +kernel
set_option maxRecDepth 100000 in
theorem ml_12_625 : ml 12 625 = some (247, 0, 1, 1642) := by decide +kernel
set_option maxRecDepth 100000 in
theorem ml_12_628 : ml 12 628 = some (248, 0, 0, 1646) := by decide +kernel
set_option maxRecDepth 100000 in
theorem ml_12_610 : ml 12 610 = some (241, 0, 0, 1650) := by decide +kernel
set_option maxRecDepth 100000 in
theorem ml_12_643 : ml 12 643 = some (250, 0, 0, 1654) := by decide +kernel
set_option maxRecDepth 100000 in
theorem ml_12_631 : ml 12 631 = some (243, 0, 0, 1658) := by decide +kernel
set_option maxRecDepth 100000 in
theorem ml_12_607 : ml 12 607 = some (242, 1, 1, 1662) := by decide +kernel
set_option maxRecDepth 100000 in
theorem ml_12_634 : ml 12 634 = some (244, 0, 0, 1665) := by decide +kernel
set_option maxRecDepth 100000 in
theorem ml_12_637 : ml 12 637 = some (240, 0, 1, 1669) := by decide +kernel
set_option maxRecDepth 100000 in
theorem ml_12_649 : ml 12 649 = some (254, 0, 0, 1673) := by decide +kernel
set_option maxRecDepth 100000 in
theorem ml_12_652 : ml 12 652 = some (256, 0, 0, 1677) := by decide +kernel
set_option maxRecDepth 100000 in
theorem ml_12_655 : ml 12 655 = some (253, 0, 0, 1681) := by decide +kernel
set_option maxRecDepth 100000 in
theorem ml_12_359 : ml 12 359 = some (162, 0, 1, 1685) := by decide +kernel
set_option maxRecDepth 100000 in
theorem ml_12_383 : ml 12 383 = some (164, 0, 2, 1689) := by decide +kernel
set_option maxRecDepth 100000 in
theorem ml_12_395 : ml 12 395 = some (168, 0, 0, 1693) := by decide +kernel
set_option maxRecDepth 100000 in
theorem ml_19_32 : ml 19 32 = some (169, 0, 1, 1697) := by decide +kernel
set_option maxRecDepth 100000 in
theorem ml_19_36 : ml 19 36 = some (197, 0, 1, 1701) := by decide +kernel
set_option maxRecDepth 100000 in
theorem ml_12_404 : ml 12 404 = some (171, 0, 0, 1705) := by decide +kernel
set_option maxRecDepth 100000 in
theorem ml_12_407 : ml 12 407 = some (172, 0, 0, 1709) := by decide +kernel
set_option maxRecDepth 100000 in
theorem ml_12_410 : ml 12 410 = some (173, 0, 0, 1713) := by decide +kernel
set_option maxRecDepth 100000 in
theorem ml_12_413 : ml 12 413 = some (174, 0, 0, 1717) := by decide +kernel
set_option maxRecDepth 100000 in
theorem ml_12_493 : ml 12 493 = some (170, 0, 0, 1721) := by decide +kernel
set_option maxRecDepth 100000 in
theorem ml_12_496 : ml 12 496 = some (196, 0, 0, 1725) := by decide +kernel
set_option maxRecDepth 100000 in
theorem ml_12_490 : ml 12 490 = some (190, 0, 1, 1729) := by decide +kernel
set_option maxRecDepth 100000 in
theorem ml_12_461 : ml 12 461 = some (189, 0, 2, 1733) := by decide +kernel
set_option maxRecDepth 100000 in
theorem ml_12_452 : ml 12 452 = some (187, 0, 1, 1737) := by decide +kernel
set_option maxRecDepth 100000 in
theorem ml_12_419 : ml 12 419 = some (259, 0, 1, 1741) := by decide +kernel
set_option maxRecDepth 100000 in
theorem ml_12_423 : ml 12 423 = some (262, 0, 3, 1745) := by decide +kernel
set_option maxRecDepth 100000 in
theorem ml_12_440 : ml 12 440 = some (180, 0, 2, 1749) := by decide +kernel
set_option maxRecDepth 100000 in
theorem ml_12_434 : ml 12 434 = some (179, 0, 2, 1753) := by decide +kernel
set_option maxRecDepth 100000 in
theorem ml_12_427 : ml 12 427 = some (261, 0, 2, 1757) := by decide +kernel
set_option maxRecDepth 100000 in
theorem ml_12_431 : ml 12 431 = some (260, 0, 1, 1761) := by decide +kernel
set_option maxRecDepth 100000 in
theorem ml_12_662 : ml 12 662 = some (257, 1, 1, 1765) := by decide +kernel
set_option maxRecDepth 100000 in
theorem ml_12_666 : ml 12 666 = some (258, 1, 2, 1770) := by decide +kernel
set_option maxRecDepth 100000 in
theorem ml_19_41 : ml 19 41 = some (198, 0, 3, 1773) := by decide +kernel
set_option maxRecDepth 100000 in
theorem ml_19_45 : ml 19 45 = some (199, 0, 3, 1779) := by decide +kernel
set_option maxRecDepth 100000 in
theorem ml_12_503 : ml 12 503 = some (176, 0, 1, 1783) := by decide +kernel
set_option maxRecDepth 100000 in
theorem ml_12_506 : ml 12 506 = some (175, 0, 1, 1787) := by decide +kernel
set_option maxRecDepth 100000 in
theorem ml_19_50 : ml 19 50 = some (200, 0, 2, 1791) := by decide +kernel
set_option maxRecDepth 100000 in
theorem ml_12_509 : ml 12 509 = some (177, 0, 1, 1795) := by decide +kernel
set_option maxRecDepth 100000 in
theorem ml_12_471 : ml 12 471 = some (182, 0, 2, 1799) := by decide +kernel
set_option maxRecDepth 100000 in
theorem ml_19_54 : ml 19 54 = some (202, 0, 2, 1803) := by decide +kernel
set_option maxRecDepth 100000 in
theorem ml_12_468 : ml 12 468 = some (183, 0, 1, 1807) := by decide +kernel
set_option maxRecDepth 100000 in
theorem ml_12_465 : ml 12 465 = some (181, 0, 1, 1811) := by decide +kernel
set_option maxRecDepth 100000 in
theorem ml_12_512 : ml 12 512 = some (201, 0, 1, 1815) := by decide +kernel
set_option maxRecDepth 100000 in
theorem ml_19_58 : ml 19 58 = some (203, 0, 2, 1819) := by decide +kernel
set_option maxRecDepth 100000 in
theorem ml_12_515 : ml 12 515 = some (178, 0, 1, 1823) := by decide +kernel
set_option maxRecDepth 100000 in
theorem ml_19_62 : ml 19 62 = some (205, 0, 3, 1827) := by decide +kernel
set_option maxRecDepth 100000 in
theorem ml_12_520 : ml 12 520 = some (204, 0, 1, 1831) := by decide +kernel
set_option maxRecDepth 100000 in
theorem ml_12_523 : ml 12 523 = some (184, 0, 0, 1836) := by decide +kernel
set_option maxRecDepth 100000 in
theorem ml_12_526 : ml 12 526 = some (195, 0, 1, 1840) := by decide +kernel
set_option maxRecDepth 100000 in
theorem ml_12_487 : ml 12 487 = some (194, 0, 0, 1844) := by decide +kernel
set_option maxRecDepth 100000 in
theorem ml_12_478 : ml 12 478 = some (191, 0, 1, 1848) := by decide +kernel
set_option maxRecDepth 100000 in
theorem ml_12_481 : ml 12 481 = some (192, 0, 2, 1852) := by decide +kernel
set_option maxRecDepth 100000 in
theorem ml_12_474 : ml 12 474 = some (188, 0, 5, 1856) := by decide +kernel
set_option maxRecDepth 100000 in
theorem ml_12_484 : ml 12 484 = some (193, 0, 1, 1861) := by decide +kernel
set_option maxRecDepth 100000 in
theorem ml_12_529 : ml 12 529 = some (185, 0, 0, 1865) := by decide +kernel
set_option maxRecDepth 100000 in
theorem ml_19_66 : ml 19 66 = some (207, 0, 1, 1869) := by decide +kernel
set_option maxRecDepth 100000 in
theorem ml_12_534 : ml 12 534 = some (206, 0, 0, 1874) := by decide +kernel
set_option maxRecDepth 100000 in
theorem ml_19_70 : ml 19 70 = some (208, 0, 3, 1878) := by decide +kernel
set_option maxRecDepth 100000 in
theorem ml_19_74 : ml 19 74 = some (210, 0, 1, 1882) := by decide +kernel
set_option maxRecDepth 100000 in
theorem ml_12_537 : ml 12 537 = some (209, 0, 2, 1886) := by decide +kernel
set_option maxRecDepth 100000 in
theorem ml_19_79 : ml 19 79 = some (215, 0, 6, 1890) := by decide +kernel
set_option maxRecDepth 100000 in
theorem ml_12_540 : ml 12 540 = some (211, 0, 1, 1894) := by decide +kernel
set_option maxRecDepth 100000 in
theorem ml_12_543 : ml 12 543 = some (214, 0, 5, 1898) := by decide +kernel
set_option maxRecDepth 100000 in
theorem ml_12_546 : ml 12 546 = some (212, 1, 1, 1902) := by decide +kernel
set_option maxRecDepth 100000 in
theorem ml_19_83 : ml 19 83 = some (216, 0, 5, 1905) := by decide +kernel
set_option maxRecDepth 100000 in
theorem ml_19_87 : ml 19 87 = some (217, 0, 3, 1909) := by decide +kernel
set_option maxRecDepth 100000 in
theorem ml_19_91 : ml 19 91 = some (219, 0, 3, 1916) := by decide +kernel
set_option maxRecDepth 100000 in
theorem ml_12_555 : ml 12 555 = some (218, 0, 2, 1920) := by decide +kernel
set_option maxRecDepth 100000 in
theorem ml_19_112 : ml 19 112 = some (221, 0, 0, 1924) := by decide +kernel
set_option maxRecDepth 100000 in
theorem ml_19_95 : ml 19 95 = some (223, 0, 1, 1928) := by decide +kernel
set_option maxRecDepth 100000 in
theorem ml_12_563 : ml 12 563 = some (222, 0, 0, 1933) := by decide +kernel
set_option maxRecDepth 100000 in
theorem ml_12_566 : ml 12 566 = some (220, 0, 0, 1937) := by decide +kernel
set_option maxRecDepth 100000 in
theorem ml_19_99 : ml 19 99 = some (224, 0, 2, 1941) := by decide +kernel
set_option maxRecDepth 100000 in
theorem ml_19_103 : ml 19 103 = some (225, 0, 3, 1945) := by decide +kernel
set_option maxRecDepth 100000 in
theorem ml_19_116 : ml 19 116 = some (226, 0, 1, 1949) := by decide +kernel
set_option maxRecDepth 100000 in
theorem ml_19_107 : ml 19 107 = some (229, 0, 1, 1953) := by decide +kernel
set_option maxRecDepth 100000 in
theorem ml_12_585 : ml 12 585 = some (228, 0, 0, 1958) := by decide +kernel
set_option maxRecDepth 100000 in
theorem ml_12_577 : ml 12 577 = some (227, 0, 1, 1962) := by decide +kernel
set_option maxRecDepth 100000 in
theorem ml_12_580 : ml 12 580 = some (213, 1, 2, 1970) := by decide +kernel
set_option maxRecDepth 100000 in
theorem ml_19_120 : ml 19 120 = some (230, 0, 0, 1973) := by decide +kernel
set_option maxRecDepth 100000 in
theorem ml_19_124 : ml 19 124 = some (234, 0, 2, 1977) := by decide +kernel
set_option maxRecDepth 100000 in
theorem ml_12_594 : ml 12 594 = some (233, 0, 2, 1981) := by decide +kernel
set_option maxRecDepth 100000 in
theorem ml_12_588 : ml 12 588 = some (232, 0, 0, 1985) := by decide +kernel
set_option maxRecDepth 100000 in
theorem ml_12_591 : ml 12 591 = some (231, 0, 1, 1989) := by decide +kernel
set_option maxRecDepth 100000 in
theorem ml_19_128 : ml 19 128 = some (237, 0, 3, 1993) := by decide +kernel
set_option maxRecDepth 100000 in
theorem ml_12_597 : ml 12 597 = some (236, 0, 3, 1997) := by decide +kernel
set_option maxRecDepth 100000 in
theorem ml_12_601 : ml 12 601 = some (235, 0, 2, 2001) := by decide +kernel
set_option maxRecDepth 100000 in
theorem ml_19_133 : ml 19 133 = some (266, 0, 1, 2005) := by decide +kernel
set_option maxRecDepth 100000 in
theorem ml_12_684 : ml 12 684 = some (264, 0, 0, 2010) := by decide +kernel
set_option maxRecDepth 100000 in
theorem ml_12_687 : ml 12 687 = some (263, 0, 1, 2015) := by decide +kernel
set_option maxRecDepth 100000 in
theorem ml_12_690 : ml 12 690 = some (265, 0, 3, 2019) := by decide +kernel
set_option maxRecDepth 100000 in
theorem ml_19_137 : ml 19 137 = some (269, 0, 0, 2023) := by decide +kernel
set_option maxRecDepth 100000 in
theorem ml_12_697 : ml 12 697 = some (268, 0, 1, 2027) := by decide +kernel
set_option maxRecDepth 100000 in
theorem ml_12_700 : ml 12 700 = some (267, 1, 2, 2031) := by decide +kernel
set_option maxRecDepth 100000 in
theorem ml_19_141 : ml 19 141 = some (270, 0, 1, 2034) := by decide +kernel
set_option maxRecDepth 100000 in
theorem ml_19_145 : ml 19 145 = some (273, 0, 0, 2038) := by decide +kernel
set_option maxRecDepth 100000 in
theorem ml_12_707 : ml 12 707 = some (272, 0, 1, 2042) := by decide +kernel
set_option maxRecDepth 100000 in
theorem ml_12_704 : ml 12 704 = some (271, 0, 0, 2046) := by decide +kernel
set_option maxRecDepth 100000 in
theorem ml_19_149 : ml 19 149 = some (274, 0, 1, 2050) := by decide +kernel
theorem cl_19_7 : cl_ 19 7 = some (11, 158, 159, 137) := by decide +kernel
theorem cl_11_7 : cl_ 11 7 = some (10, 166, 167, 138) := by decide +kernel
theorem cl_10_9 : cl_ 10 9 = some (1, 172, 173, 139) := by decide +kernel
theorem cl_1_9 : cl_ 1 9 = some (6, 178, 179, 140) := by decide +kernel
theorem cl_11_41 : cl_ 11 41 = some (0, 242, 243, 141) := by decide +kernel
theorem cl_11_48 : cl_ 11 48 = some (9, 260, 261, 142) := by decide +kernel
theorem cl_9_39 : cl_ 9 39 = some (0, 268, 243, 141) := by decide +kernel
theorem cl_11_58 : cl_ 11 58 = some (5, 361, 362, 144) := by decide +kernel
theorem cl_5_9 : cl_ 5 9 = some (8, 367, 368, 145) := by decide +kernel
theorem cl_11_65 : cl_ 11 65 = some (7, 397, 398, 146) := by decide +kernel
theorem cl_11_79 : cl_ 11 79 = some (3, 442, 443, 147) := by decide +kernel
theorem cl_3_9 : cl_ 3 9 = some (7, 448, 398, 146) := by decide +kernel
theorem cl_11_86 : cl_ 11 86 = some (2, 461, 462, 148) := by decide +kernel
theorem cl_2_9 : cl_ 2 9 = some (5, 467, 362, 144) := by decide +kernel
theorem cl_2_18 : cl_ 2 18 = some (7, 469, 398, 146) := by decide +kernel
theorem cl_11_93 : cl_ 11 93 = some (4, 499, 500, 149) := by decide +kernel
theorem cl_19_10 : cl_ 19 10 = some (12, 1170, 1171, 150) := by decide +kernel
theorem kl_13_265 : kl 13 265 = some ((1431655765), 885) := by decide +kernel
theorem kl_13_266 : kl 13 266 = some ((858993459), 886) := by decide +kernel
theorem kl_13_267 : kl 13 267 = some ((252645135), 887) := by decide +kernel
theorem ll_8_60 : ll 8 60 = some ((-1000000), 862) := by decide +kernel
theorem ll_8_62 : ll 8 62 = some ((1000000), 863) := by decide +kernel
theorem ll_11_217 : ll 11 217 = some ((100), 1000) := by decide +kernel
theorem ll_11_219 : ll 11 219 = some ((1000), 1001) := by decide +kernel
theorem ll_11_307 : ll 11 307 = some ((1103515245), 1045) := by decide +kernel
theorem ll_11_309 : ll 11 309 = some ((12345), 1046) := by decide +kernel
theorem ll_11_311 : ll 11 311 = some ((2147483647), 1047) := by decide +kernel
theorem ll_11_313 : ll 11 313 = some ((64), 1048) := by decide +kernel
theorem ll_11_263 : ll 11 263 = some ((-1000000000000000), 1118) := by decide +kernel
theorem ll_11_315 : ll 11 315 = some ((-1), 1128) := by decide +kernel
theorem ll_12_293 : ll 12 293 = some ((27), 1543) := by decide +kernel
theorem ll_12_295 : ll 12 295 = some ((97), 1544) := by decide +kernel
theorem ll_12_658 : ll 12 658 = some ((1000000), 1768) := by decide +kernel
theorem ll_12_660 : ll 12 660 = some ((-1000000), 1769) := by decide +kernel
theorem ll_12_499 : ll 12 499 = some ((3), 1777) := by decide +kernel
theorem ll_12_501 : ll 12 501 = some ((5), 1778) := by decide +kernel
theorem ll_12_518 : ll 12 518 = some ((200), 1835) := by decide +kernel
theorem ll_12_456 : ll 12 456 = some ((99), 1860) := by decide +kernel
theorem ll_12_532 : ll 12 532 = some ((2), 1873) := by decide +kernel
theorem ll_12_549 : ll 12 549 = some ((6), 1913) := by decide +kernel
theorem ll_12_551 : ll 12 551 = some ((100), 1914) := by decide +kernel
theorem ll_12_553 : ll 12 553 = some ((1000), 1915) := by decide +kernel
theorem ll_12_561 : ll 12 561 = some ((500), 1932) := by decide +kernel
theorem ll_12_583 : ll 12 583 = some ((20), 1957) := by decide +kernel
theorem ll_12_569 : ll 12 569 = some ((1103515245), 1966) := by decide +kernel
theorem ll_12_571 : ll 12 571 = some ((12345), 1967) := by decide +kernel
theorem ll_12_573 : ll 12 573 = some ((2147483648), 1968) := by decide +kernel
theorem ll_12_575 : ll 12 575 = some ((64), 1969) := by decide +kernel
theorem ll_12_682 : ll 12 682 = some ((-1000000000000000), 2009) := by decide +kernel
theorem ll_12_676 : ll 12 676 = some ((-1), 2014) := by decide +kernel
theorem gl_9_9 : gl 9 9 = some (1, 1, 4) := by decide +kernel
theorem gl_7_18 : gl 7 18 = some (1, 1, 9) := by decide +kernel
theorem gl_15_38 : gl 15 38 = some (0, 0, 626) := by decide +kernel
theorem gl_15_1053 : gl 15 1053 = some (2, 0, 642) := by decide +kernel
theorem gl_10_111 : gl 10 111 = some (1, 1, 15) := by decide +kernel
theorem gl_8_69 : gl 8 69 = some (1, 1, 18) := by decide +kernel
theorem gl_11_295 : gl 11 295 = some (1, 0, 966) := by decide +kernel
theorem ks_6_70 : kl 6 70 = none := by decide +kernel
theorem ks_6_72 : kl 6 72 = none := by decide +kernel
theorem ks_6_74 : kl 6 74 = none := by decide +kernel
set_option maxRecDepth 100000 in
theorem Xe_X0_init (d : Nat) (a0 : Nat) (h : Hp) : X (d + 1) 0 [.ref a0] h = Rn (X d) 0 (none) true 1 cX0_init (0, [(0, .ref a0)], [], h) := X_in (e := (yX0_init, 0, cX0_init, 1, (none), 0, true, _, _, _, _)) rfl (Nat.le_of_ble_eq_true rfl)
set_option maxRecDepth 100000 in
theorem Xe_X0_add (d : Nat) (a0 : Nat) (x0 : Int32) (h : Hp) : X (d + 1) 1 [.ref a0, .int x0] h = Rn (X d) 0 (some .boolean) false 2 cX0_add (0, [(0, .ref a0), (1, .int x0)], [], h) := X_in (e := (yX0_add, 0, cX0_add, 2, (some .boolean), 1, false, _, _, _, _)) rfl (Nat.le_of_ble_eq_true rfl)
set_option maxRecDepth 100000 in
theorem Xe_X1_init (d : Nat) (a0 : Nat) (h : Hp) : X (d + 1) 2 [.ref a0] h = Rn (X d) 1 (none) true 1 cX1_init (0, [(0, .ref a0)], [], h) := X_in (e := (yX1_init, 1, cX1_init, 1, (none), 0, true, _, _, _, _)) rfl (Nat.le_of_ble_eq_true rfl)
set_option maxRecDepth 100000 in
theorem Xe_X1_readQuestion (d : Nat) (a0 : Nat) (x0 : Int32) (y1 : Nat) (h : Hp) : X (d + 1) 3 [.ref a0, .int x0, .ref y1] h = Rn (X d) 1 (some .int) false 6 cX1_readQuestion (0, [(0, .ref a0), (1, .int x0), (2, .ref y1)], [], h) := X_in (e := (yX1_readQuestion, 1, cX1_readQuestion, 6, (some .int), 2, false, _, _, _, _)) rfl (Nat.le_of_ble_eq_true rfl)
set_option maxRecDepth 100000 in
theorem Xe_X1_test (d : Nat) (a0 : Nat) (y0 : Nat) (x1 : Int32) (h : Hp) : X (d + 1) 4 [.ref a0, .ref y0, .int x1] h = Rn (X d) 1 (some .boolean) false 5 cX1_test (0, [(0, .ref a0), (1, .ref y0), (2, .int x1)], [], h) := X_in (e := (yX1_test, 1, cX1_test, 5, (some .boolean), 2, false, _, _, _, _)) rfl (Nat.le_of_ble_eq_true rfl)
set_option maxRecDepth 100000 in
theorem Xe_X1_both (d : Nat) (a0 : Nat) (y0 : Nat) (x1 : Int32) (h : Hp) : X (d + 1) 5 [.ref a0, .ref y0, .int x1] h = Rn (X d) 1 (some .boolean) false 5 cX1_both (0, [(0, .ref a0), (1, .ref y0), (2, .int x1)], [], h) := X_in (e := (yX1_both, 1, cX1_both, 5, (some .boolean), 2, false, _, _, _, _)) rfl (Nat.le_of_ble_eq_true rfl)
set_option maxRecDepth 100000 in
theorem Xe_X1_fact (d : Nat) (a0 : Nat) (y0 : Nat) (x1 : Int32) (h : Hp) : X (d + 1) 6 [.ref a0, .ref y0, .int x1] h = Rn (X d) 1 (some .boolean) false 4 cX1_fact (0, [(0, .ref a0), (1, .ref y0), (2, .int x1)], [], h) := X_in (e := (yX1_fact, 1, cX1_fact, 4, (some .boolean), 2, false, _, _, _, _)) rfl (Nat.le_of_ble_eq_true rfl)
set_option maxRecDepth 100000 in
theorem Xe_X1_sum (d : Nat) (a0 : Nat) (y0 : Nat) (x1 : Int32) (h : Hp) : X (d + 1) 7 [.ref a0, .ref y0, .int x1] h = Rn (X d) 1 (some .boolean) false 6 cX1_sum (0, [(0, .ref a0), (1, .ref y0), (2, .int x1)], [], h) := X_in (e := (yX1_sum, 1, cX1_sum, 6, (some .boolean), 2, false, _, _, _, _)) rfl (Nat.le_of_ble_eq_true rfl)
set_option maxRecDepth 100000 in
theorem Xe_X1_product (d : Nat) (a0 : Nat) (y0 : Nat) (x1 : Int32) (h : Hp) : X (d + 1) 8 [.ref a0, .ref y0, .int x1] h = Rn (X d) 1 (some .boolean) false 6 cX1_product (0, [(0, .ref a0), (1, .ref y0), (2, .int x1)], [], h) := X_in (e := (yX1_product, 1, cX1_product, 6, (some .boolean), 2, false, _, _, _, _)) rfl (Nat.le_of_ble_eq_true rfl)
set_option maxRecDepth 100000 in
theorem Xe_X1_part (d : Nat) (a0 : Nat) (y0 : Nat) (x1 : Int32) (h : Hp) : X (d + 1) 9 [.ref a0, .ref y0, .int x1] h = Rn (X d) 1 (some .boolean) false 4 cX1_part (0, [(0, .ref a0), (1, .ref y0), (2, .int x1)], [], h) := X_in (e := (yX1_part, 1, cX1_part, 4, (some .boolean), 2, false, _, _, _, _)) rfl (Nat.le_of_ble_eq_true rfl)
set_option maxRecDepth 100000 in
theorem Xe_X1_pair (d : Nat) (a0 : Nat) (y0 : Nat) (x1 : Int32) (h : Hp) : X (d + 1) 10 [.ref a0, .ref y0, .int x1] h = Rn (X d) 1 (some .boolean) false 3 cX1_pair (0, [(0, .ref a0), (1, .ref y0), (2, .int x1)], [], h) := X_in (e := (yX1_pair, 1, cX1_pair, 3, (some .boolean), 2, false, _, _, _, _)) rfl (Nat.le_of_ble_eq_true rfl)
set_option maxRecDepth 100000 in
theorem Xe_X1_mayOpen (d : Nat) (a0 : Nat) (x0 : Int32) (h : Hp) : X (d + 1) 11 [.ref a0, .int x0] h = Rn (X d) 1 (some .boolean) false 2 cX1_mayOpen (0, [(0, .ref a0), (1, .int x0)], [], h) := X_in (e := (yX1_mayOpen, 1, cX1_mayOpen, 2, (some .boolean), 1, false, _, _, _, _)) rfl (Nat.le_of_ble_eq_true rfl)
set_option maxRecDepth 100000 in
theorem Xe_X1_isAskedOfNumber (d : Nat) (a0 : Nat) (x0 : Int32) (h : Hp) : X (d + 1) 12 [.ref a0, .int x0] h = Rn (X d) 1 (some .boolean) false 2 cX1_isAskedOfNumber (0, [(0, .ref a0), (1, .int x0)], [], h) := X_in (e := (yX1_isAskedOfNumber, 1, cX1_isAskedOfNumber, 2, (some .boolean), 1, false, _, _, _, _)) rfl (Nat.le_of_ble_eq_true rfl)
set_option maxRecDepth 100000 in
theorem Xe_X1_isAlone (d : Nat) (a0 : Nat) (x0 : Int32) (h : Hp) : X (d + 1) 13 [.ref a0, .int x0] h = Rn (X d) 1 (some .boolean) false 2 cX1_isAlone (0, [(0, .ref a0), (1, .int x0)], [], h) := X_in (e := (yX1_isAlone, 1, cX1_isAlone, 2, (some .boolean), 1, false, _, _, _, _)) rfl (Nat.le_of_ble_eq_true rfl)
set_option maxRecDepth 100000 in
theorem Xe_X2_init (d : Nat) (a0 : Nat) (h : Hp) : X (d + 1) 14 [.ref a0] h = Rn (X d) 2 (none) true 1 cX2_init (0, [(0, .ref a0)], [], h) := X_in (e := (yX2_init, 2, cX2_init, 1, (none), 0, true, _, _, _, _)) rfl (Nat.le_of_ble_eq_true rfl)
set_option maxRecDepth 100000 in
theorem Xe_X2_readRows (d : Nat) (a0 : Nat) (y0 : Nat) (x1 : Int32) (y2 : Nat) (h : Hp) : X (d + 1) 15 [.ref a0, .ref y0, .int x1, .ref y2] h = Rn (X d) 2 (some .boolean) false 5 cX2_readRows (0, [(0, .ref a0), (1, .ref y0), (2, .int x1), (3, .ref y2)], [], h) := X_in (e := (yX2_readRows, 2, cX2_readRows, 5, (some .boolean), 3, false, _, _, _, _)) rfl (Nat.le_of_ble_eq_true rfl)
set_option maxRecDepth 100000 in
theorem Xe_X2_findSets (d : Nat) (a0 : Nat) (y0 : Nat) (y1 : Nat) (x2 : Int32) (h : Hp) : X (d + 1) 16 [.ref a0, .ref y0, .ref y1, .int x2] h = Rn (X d) 2 (none) false 7 cX2_findSets (0, [(0, .ref a0), (1, .ref y0), (2, .ref y1), (3, .int x2)], [], h) := X_in (e := (yX2_findSets, 2, cX2_findSets, 7, (none), 3, false, _, _, _, _)) rfl (Nat.le_of_ble_eq_true rfl)
set_option maxRecDepth 100000 in
theorem Xe_X2_lastSeen (d : Nat) (a0 : Nat) (h : Hp) : X (d + 1) 17 [.ref a0] h = Rn (X d) 2 (some .int) false 3 cX2_lastSeen (0, [(0, .ref a0)], [], h) := X_in (e := (yX2_lastSeen, 2, cX2_lastSeen, 3, (some .int), 0, false, _, _, _, _)) rfl (Nat.le_of_ble_eq_true rfl)
set_option maxRecDepth 100000 in
theorem Xe_X2_isAsSeen (d : Nat) (a0 : Nat) (y0 : Nat) (x1 : Int32) (h : Hp) : X (d + 1) 18 [.ref a0, .ref y0, .int x1] h = Rn (X d) 2 (some .boolean) false 6 cX2_isAsSeen (0, [(0, .ref a0), (1, .ref y0), (2, .int x1)], [], h) := X_in (e := (yX2_isAsSeen, 2, cX2_isAsSeen, 6, (some .boolean), 2, false, _, _, _, _)) rfl (Nat.le_of_ble_eq_true rfl)
set_option maxRecDepth 100000 in
theorem Xe_X2_inAll (d : Nat) (a0 : Nat) (h : Hp) : X (d + 1) 19 [.ref a0] h = Rn (X d) 2 (some .int) false 3 cX2_inAll (0, [(0, .ref a0)], [], h) := X_in (e := (yX2_inAll, 2, cX2_inAll, 3, (some .int), 0, false, _, _, _, _)) rfl (Nat.le_of_ble_eq_true rfl)
set_option maxRecDepth 100000 in
theorem Xe_X2_inSome (d : Nat) (a0 : Nat) (h : Hp) : X (d + 1) 20 [.ref a0] h = Rn (X d) 2 (some .int) false 3 cX2_inSome (0, [(0, .ref a0)], [], h) := X_in (e := (yX2_inSome, 2, cX2_inSome, 3, (some .int), 0, false, _, _, _, _)) rfl (Nat.le_of_ble_eq_true rfl)
set_option maxRecDepth 100000 in
theorem Xe_X2_foresee (d : Nat) (a0 : Nat) (y0 : Nat) (y1 : Nat) (x2 : Int32) (x3 : Int32) (h : Hp) : X (d + 1) 21 [.ref a0, .ref y0, .ref y1, .int x2, .int x3] h = Rn (X d) 2 (none) false 6 cX2_foresee (0, [(0, .ref a0), (1, .ref y0), (2, .ref y1), (3, .int x2), (4, .int x3)], [], h) := X_in (e := (yX2_foresee, 2, cX2_foresee, 6, (none), 4, false, _, _, _, _)) rfl (Nat.le_of_ble_eq_true rfl)
set_option maxRecDepth 100000 in
theorem Xe_X2_mostAlike (d : Nat) (a0 : Nat) (x0 : Int32) (h : Hp) : X (d + 1) 22 [.ref a0, .int x0] h = Rn (X d) 2 (some .int) false 5 cX2_mostAlike (0, [(0, .ref a0), (1, .int x0)], [], h) := X_in (e := (yX2_mostAlike, 2, cX2_mostAlike, 5, (some .int), 1, false, _, _, _, _)) rfl (Nat.le_of_ble_eq_true rfl)
set_option maxRecDepth 100000 in
theorem Xe_X3_init (d : Nat) (a0 : Nat) (h : Hp) : X (d + 1) 23 [.ref a0] h = Rn (X d) 3 (none) true 2 cX3_init (0, [(0, .ref a0)], [], h) := X_in (e := (yX3_init, 3, cX3_init, 2, (none), 0, true, _, _, _, _)) rfl (Nat.le_of_ble_eq_true rfl)
set_option maxRecDepth 100000 in
theorem Xe_X3_keep (d : Nat) (a0 : Nat) (y0 : Nat) (h : Hp) : X (d + 1) 24 [.ref a0, .ref y0] h = Rn (X d) 3 (none) false 2 cX3_keep (0, [(0, .ref a0), (1, .ref y0)], [], h) := X_in (e := (yX3_keep, 3, cX3_keep, 2, (none), 1, false, _, _, _, _)) rfl (Nat.le_of_ble_eq_true rfl)
set_option maxRecDepth 100000 in
theorem Xe_X3_takeBack (d : Nat) (a0 : Nat) (y0 : Nat) (h : Hp) : X (d + 1) 25 [.ref a0, .ref y0] h = Rn (X d) 3 (some .boolean) false 2 cX3_takeBack (0, [(0, .ref a0), (1, .ref y0)], [], h) := X_in (e := (yX3_takeBack, 3, cX3_takeBack, 2, (some .boolean), 1, false, _, _, _, _)) rfl (Nat.le_of_ble_eq_true rfl)
set_option maxRecDepth 100000 in
theorem Xe_X4_init (d : Nat) (a0 : Nat) (h : Hp) : X (d + 1) 26 [.ref a0] h = Rn (X d) 4 (none) true 1 cX4_init (0, [(0, .ref a0)], [], h) := X_in (e := (yX4_init, 4, cX4_init, 1, (none), 0, true, _, _, _, _)) rfl (Nat.le_of_ble_eq_true rfl)
set_option maxRecDepth 100000 in
theorem Xe_X4_write (d : Nat) (a0 : Nat) (y0 : Nat) (y1 : Nat) (h : Hp) : X (d + 1) 27 [.ref a0, .ref y0, .ref y1] h = Rn (X d) 4 (none) false 5 cX4_write (0, [(0, .ref a0), (1, .ref y0), (2, .ref y1)], [], h) := X_in (e := (yX4_write, 4, cX4_write, 5, (none), 2, false, _, _, _, _)) rfl (Nat.le_of_ble_eq_true rfl)
set_option maxRecDepth 100000 in
theorem Xe_X4_put (d : Nat) (a0 : Nat) (x0 : Int32) (h : Hp) : X (d + 1) 28 [.ref a0, .int x0] h = Rn (X d) 4 (none) false 2 cX4_put (0, [(0, .ref a0), (1, .int x0)], [], h) := X_in (e := (yX4_put, 4, cX4_put, 2, (none), 1, false, _, _, _, _)) rfl (Nat.le_of_ble_eq_true rfl)
set_option maxRecDepth 100000 in
theorem Xe_X4_check (d : Nat) (y0 : Nat) (x1 : Int32) (h : Hp) : X (d + 1) 29 [.ref y0, .int x1] h = Rn (X d) 4 (some .int) false 4 cX4_check (0, [(0, .ref y0), (1, .int x1)], [], h) := X_in (e := (yX4_check, 4, cX4_check, 4, (some .int), 2, false, _, _, _, _)) rfl (Nat.le_of_ble_eq_true rfl)
set_option maxRecDepth 100000 in
theorem Xe_X4_isOne (d : Nat) (y0 : Nat) (x1 : Int32) (y2 : Nat) (h : Hp) : X (d + 1) 30 [.ref y0, .int x1, .ref y2] h = Rn (X d) 4 (some .boolean) false 9 cX4_isOne (0, [(0, .ref y0), (1, .int x1), (2, .ref y2)], [], h) := X_in (e := (yX4_isOne, 4, cX4_isOne, 9, (some .boolean), 3, false, _, _, _, _)) rfl (Nat.le_of_ble_eq_true rfl)
set_option maxRecDepth 100000 in
theorem Xe_X4_read (d : Nat) (y0 : Nat) (y1 : Nat) (y2 : Nat) (h : Hp) : X (d + 1) 31 [.ref y0, .ref y1, .ref y2] h = Rn (X d) 4 (none) false 6 cX4_read (0, [(0, .ref y0), (1, .ref y1), (2, .ref y2)], [], h) := X_in (e := (yX4_read, 4, cX4_read, 6, (none), 3, false, _, _, _, _)) rfl (Nat.le_of_ble_eq_true rfl)
set_option maxRecDepth 100000 in
theorem Xe_X5_init (d : Nat) (a0 : Nat) (h : Hp) : X (d + 1) 32 [.ref a0] h = Rn (X d) 5 (none) true 1 cX5_init (0, [(0, .ref a0)], [], h) := X_in (e := (yX5_init, 5, cX5_init, 1, (none), 0, true, _, _, _, _)) rfl (Nat.le_of_ble_eq_true rfl)
set_option maxRecDepth 100000 in
theorem Xe_X5_goThrough (d : Nat) (a0 : Nat) (y0 : Nat) (y1 : Nat) (x2 : Int32) (h : Hp) : X (d + 1) 33 [.ref a0, .ref y0, .ref y1, .int x2] h = Rn (X d) 5 (none) false 5 cX5_goThrough (0, [(0, .ref a0), (1, .ref y0), (2, .ref y1), (3, .int x2)], [], h) := X_in (e := (yX5_goThrough, 5, cX5_goThrough, 5, (none), 3, false, _, _, _, _)) rfl (Nat.le_of_ble_eq_true rfl)
set_option maxRecDepth 100000 in
theorem Xe_X5_hourComes (d : Nat) (a0 : Nat) (y0 : Nat) (y1 : Nat) (h : Hp) : X (d + 1) 34 [.ref a0, .ref y0, .ref y1] h = Rn (X d) 5 (none) false 5 cX5_hourComes (0, [(0, .ref a0), (1, .ref y0), (2, .ref y1)], [], h) := X_in (e := (yX5_hourComes, 5, cX5_hourComes, 5, (none), 2, false, _, _, _, _)) rfl (Nat.le_of_ble_eq_true rfl)
set_option maxRecDepth 100000 in
theorem Xe_X5_bakeLoaf (d : Nat) (y0 : Nat) (y1 : Nat) (x2 : Int32) (h : Hp) : X (d + 1) 35 [.ref y0, .ref y1, .int x2] h = Rn (X d) 5 (none) false 9 cX5_bakeLoaf (0, [(0, .ref y0), (1, .ref y1), (2, .int x2)], [], h) := X_in (e := (yX5_bakeLoaf, 5, cX5_bakeLoaf, 9, (none), 3, false, _, _, _, _)) rfl (Nat.le_of_ble_eq_true rfl)
set_option maxRecDepth 100000 in
theorem Xe_X5_eat (d : Nat) (a0 : Nat) (y0 : Nat) (y1 : Nat) (x2 : Int32) (h : Hp) : X (d + 1) 36 [.ref a0, .ref y0, .ref y1, .int x2] h = Rn (X d) 5 (none) false 9 cX5_eat (0, [(0, .ref a0), (1, .ref y0), (2, .ref y1), (3, .int x2)], [], h) := X_in (e := (yX5_eat, 5, cX5_eat, 9, (none), 3, false, _, _, _, _)) rfl (Nat.le_of_ble_eq_true rfl)
set_option maxRecDepth 100000 in
theorem Xe_X5_sleep (d : Nat) (a0 : Nat) (y0 : Nat) (y1 : Nat) (x2 : Int32) (h : Hp) : X (d + 1) 37 [.ref a0, .ref y0, .ref y1, .int x2] h = Rn (X d) 5 (none) false 8 cX5_sleep (0, [(0, .ref a0), (1, .ref y0), (2, .ref y1), (3, .int x2)], [], h) := X_in (e := (yX5_sleep, 5, cX5_sleep, 8, (none), 3, false, _, _, _, _)) rfl (Nat.le_of_ble_eq_true rfl)
set_option maxRecDepth 100000 in
theorem Xe_X5_deedsDone (d : Nat) (a0 : Nat) (y0 : Nat) (y1 : Nat) (x2 : Int32) (h : Hp) : X (d + 1) 38 [.ref a0, .ref y0, .ref y1, .int x2] h = Rn (X d) 5 (some .int) false 6 cX5_deedsDone (0, [(0, .ref a0), (1, .ref y0), (2, .ref y1), (3, .int x2)], [], h) := X_in (e := (yX5_deedsDone, 5, cX5_deedsDone, 6, (some .int), 3, false, _, _, _, _)) rfl (Nat.le_of_ble_eq_true rfl)
set_option maxRecDepth 100000 in
theorem Xe_X5_valueAsked (d : Nat) (a0 : Nat) (y0 : Nat) (y1 : Nat) (y2 : Nat) (x3 : Int32) (h : Hp) : X (d + 1) 39 [.ref a0, .ref y0, .ref y1, .ref y2, .int x3] h = Rn (X d) 5 (some .int) false 5 cX5_valueAsked (0, [(0, .ref a0), (1, .ref y0), (2, .ref y1), (3, .ref y2), (4, .int x3)], [], h) := X_in (e := (yX5_valueAsked, 5, cX5_valueAsked, 5, (some .int), 4, false, _, _, _, _)) rfl (Nat.le_of_ble_eq_true rfl)
set_option maxRecDepth 100000 in
theorem Xe_X6_init (d : Nat) (a0 : Nat) (h : Hp) : X (d + 1) 40 [.ref a0] h = Rn (X d) 6 (none) true 1 cX6_init (0, [(0, .ref a0)], [], h) := X_in (e := (yX6_init, 6, cX6_init, 1, (none), 0, true, _, _, _, _)) rfl (Nat.le_of_ble_eq_true rfl)
set_option maxRecDepth 100000 in
theorem Xe_X6_start (d : Nat) (a0 : Nat) (x0 : Int32) (h : Hp) : X (d + 1) 41 [.ref a0, .int x0] h = Rn (X d) 6 (none) false 2 cX6_start (0, [(0, .ref a0), (1, .int x0)], [], h) := X_in (e := (yX6_start, 6, cX6_start, 2, (none), 1, false, _, _, _, _)) rfl (Nat.le_of_ble_eq_true rfl)
set_option maxRecDepth 100000 in
theorem Xe_X6_next (d : Nat) (a0 : Nat) (h : Hp) : X (d + 1) 42 [.ref a0] h = Rn (X d) 6 (none) false 3 cX6_next (0, [(0, .ref a0)], [], h) := X_in (e := (yX6_next, 6, cX6_next, 3, (none), 0, false, _, _, _, _)) rfl (Nat.le_of_ble_eq_true rfl)
set_option maxRecDepth 100000 in
theorem Xe_X6_letters (d : Nat) (a0 : Nat) (h : Hp) : X (d + 1) 43 [.ref a0] h = Rn (X d) 6 (some .int) false 3 cX6_letters (0, [(0, .ref a0)], [], h) := X_in (e := (yX6_letters, 6, cX6_letters, 3, (some .int), 0, false, _, _, _, _)) rfl (Nat.le_of_ble_eq_true rfl)
set_option maxRecDepth 100000 in
theorem Xe_X6_digits (d : Nat) (a0 : Nat) (h : Hp) : X (d + 1) 44 [.ref a0] h = Rn (X d) 6 (some .int) false 3 cX6_digits (0, [(0, .ref a0)], [], h) := X_in (e := (yX6_digits, 6, cX6_digits, 3, (some .int), 0, false, _, _, _, _)) rfl (Nat.le_of_ble_eq_true rfl)
set_option maxRecDepth 100000 in
theorem Xe_X6_wordNumber (d : Nat) (a0 : Nat) (h : Hp) : X (d + 1) 45 [.ref a0] h = Rn (X d) 6 (some .int) false 6 cX6_wordNumber (0, [(0, .ref a0)], [], h) := X_in (e := (yX6_wordNumber, 6, cX6_wordNumber, 6, (some .int), 0, false, _, _, _, _)) rfl (Nat.le_of_ble_eq_true rfl)
set_option maxRecDepth 100000 in
theorem Xe_X6_isBlank (d : Nat) (x0 : Int32) (h : Hp) : X (d + 1) 46 [.int x0] h = Rn (X d) 6 (some .boolean) false 1 cX6_isBlank (0, [(0, .int x0)], [], h) := X_in (e := (yX6_isBlank, 6, cX6_isBlank, 1, (some .boolean), 1, false, _, _, _, _)) rfl (Nat.le_of_ble_eq_true rfl)
set_option maxRecDepth 100000 in
theorem Xe_X6_sortOf (d : Nat) (x0 : Int32) (h : Hp) : X (d + 1) 47 [.int x0] h = Rn (X d) 6 (some .int) false 1 cX6_sortOf (0, [(0, .int x0)], [], h) := X_in (e := (yX6_sortOf, 6, cX6_sortOf, 1, (some .int), 1, false, _, _, _, _)) rfl (Nat.le_of_ble_eq_true rfl)
set_option maxRecDepth 100000 in
theorem Xe_X6_size (d : Nat) (a0 : Nat) (h : Hp) : X (d + 1) 48 [.ref a0] h = Rn (X d) 6 (some .int) false 1 cX6_size (0, [(0, .ref a0)], [], h) := X_in (e := (yX6_size, 6, cX6_size, 1, (some .int), 0, false, _, _, _, _)) rfl (Nat.le_of_ble_eq_true rfl)
set_option maxRecDepth 100000 in
theorem Xe_X6_isWord (d : Nat) (a0 : Nat) (x0 : Int32) (h : Hp) : X (d + 1) 49 [.ref a0, .int x0] h = Rn (X d) 6 (some .boolean) false 2 cX6_isWord (0, [(0, .ref a0), (1, .int x0)], [], h) := X_in (e := (yX6_isWord, 6, cX6_isWord, 2, (some .boolean), 1, false, _, _, _, _)) rfl (Nat.le_of_ble_eq_true rfl)
set_option maxRecDepth 100000 in
theorem Xe_X6_isSign (d : Nat) (a0 : Nat) (x0 : Int32) (h : Hp) : X (d + 1) 50 [.ref a0, .int x0] h = Rn (X d) 6 (some .boolean) false 2 cX6_isSign (0, [(0, .ref a0), (1, .int x0)], [], h) := X_in (e := (yX6_isSign, 6, cX6_isSign, 2, (some .boolean), 1, false, _, _, _, _)) rfl (Nat.le_of_ble_eq_true rfl)
set_option maxRecDepth 100000 in
theorem Xe_X6_wrong (d : Nat) (a0 : Nat) (x0 : Int32) (x1 : Int32) (h : Hp) : X (d + 1) 51 [.ref a0, .int x0, .int x1] h = Rn (X d) 6 (some .boolean) false 3 cX6_wrong (0, [(0, .ref a0), (1, .int x0), (2, .int x1)], [], h) := X_in (e := (yX6_wrong, 6, cX6_wrong, 3, (some .boolean), 2, false, _, _, _, _)) rfl (Nat.le_of_ble_eq_true rfl)
set_option maxRecDepth 100000 in
theorem Xe_X6_takeWord (d : Nat) (a0 : Nat) (x0 : Int32) (h : Hp) : X (d + 1) 52 [.ref a0, .int x0] h = Rn (X d) 6 (some .boolean) false 2 cX6_takeWord (0, [(0, .ref a0), (1, .int x0)], [], h) := X_in (e := (yX6_takeWord, 6, cX6_takeWord, 2, (some .boolean), 1, false, _, _, _, _)) rfl (Nat.le_of_ble_eq_true rfl)
set_option maxRecDepth 100000 in
theorem Xe_X6_takeSign (d : Nat) (a0 : Nat) (x0 : Int32) (h : Hp) : X (d + 1) 53 [.ref a0, .int x0] h = Rn (X d) 6 (some .boolean) false 2 cX6_takeSign (0, [(0, .ref a0), (1, .int x0)], [], h) := X_in (e := (yX6_takeSign, 6, cX6_takeSign, 2, (some .boolean), 1, false, _, _, _, _)) rfl (Nat.le_of_ble_eq_true rfl)
set_option maxRecDepth 100000 in
theorem Xe_X6_checkNumber (d : Nat) (a0 : Nat) (h : Hp) : X (d + 1) 54 [.ref a0] h = Rn (X d) 6 (some .boolean) false 1 cX6_checkNumber (0, [(0, .ref a0)], [], h) := X_in (e := (yX6_checkNumber, 6, cX6_checkNumber, 1, (some .boolean), 0, false, _, _, _, _)) rfl (Nat.le_of_ble_eq_true rfl)
set_option maxRecDepth 100000 in
theorem Xe_X6_takeNumber (d : Nat) (a0 : Nat) (x0 : Int32) (h : Hp) : X (d + 1) 55 [.ref a0, .int x0] h = Rn (X d) 6 (some .int) false 3 cX6_takeNumber (0, [(0, .ref a0), (1, .int x0)], [], h) := X_in (e := (yX6_takeNumber, 6, cX6_takeNumber, 3, (some .int), 1, false, _, _, _, _)) rfl (Nat.le_of_ble_eq_true rfl)
set_option maxRecDepth 100000 in
theorem Xe_X6_checkName (d : Nat) (a0 : Nat) (h : Hp) : X (d + 1) 56 [.ref a0] h = Rn (X d) 6 (some .boolean) false 1 cX6_checkName (0, [(0, .ref a0)], [], h) := X_in (e := (yX6_checkName, 6, cX6_checkName, 1, (some .boolean), 0, false, _, _, _, _)) rfl (Nat.le_of_ble_eq_true rfl)
set_option maxRecDepth 100000 in
theorem Xe_X7_init (d : Nat) (a0 : Nat) (h : Hp) : X (d + 1) 57 [.ref a0] h = Rn (X d) 7 (none) true 1 cX7_init (0, [(0, .ref a0)], [], h) := X_in (e := (yX7_init, 7, cX7_init, 1, (none), 0, true, _, _, _, _)) rfl (Nat.le_of_ble_eq_true rfl)
set_option maxRecDepth 100000 in
theorem Xe_X7_begin (d : Nat) (a0 : Nat) (y0 : Nat) (h : Hp) : X (d + 1) 58 [.ref a0, .ref y0] h = Rn (X d) 7 (none) false 2 cX7_begin (0, [(0, .ref a0), (1, .ref y0)], [], h) := X_in (e := (yX7_begin, 7, cX7_begin, 2, (none), 1, false, _, _, _, _)) rfl (Nat.le_of_ble_eq_true rfl)
set_option maxRecDepth 100000 in
theorem Xe_X7_takeOver (d : Nat) (a0 : Nat) (y0 : Nat) (h : Hp) : X (d + 1) 59 [.ref a0, .ref y0] h = Rn (X d) 7 (none) false 2 cX7_takeOver (0, [(0, .ref a0), (1, .ref y0)], [], h) := X_in (e := (yX7_takeOver, 7, cX7_takeOver, 2, (none), 1, false, _, _, _, _)) rfl (Nat.le_of_ble_eq_true rfl)
set_option maxRecDepth 100000 in
theorem Xe_X7_isLike (d : Nat) (a0 : Nat) (y0 : Nat) (h : Hp) : X (d + 1) 60 [.ref a0, .ref y0] h = Rn (X d) 7 (some .boolean) false 2 cX7_isLike (0, [(0, .ref a0), (1, .ref y0)], [], h) := X_in (e := (yX7_isLike, 7, cX7_isLike, 2, (some .boolean), 1, false, _, _, _, _)) rfl (Nat.le_of_ble_eq_true rfl)
set_option maxRecDepth 100000 in
theorem Xe_X7_copy (d : Nat) (y0 : Nat) (y1 : Nat) (h : Hp) : X (d + 1) 61 [.ref y0, .ref y1] h = Rn (X d) 7 (none) false 2 cX7_copy (0, [(0, .ref y0), (1, .ref y1)], [], h) := X_in (e := (yX7_copy, 7, cX7_copy, 2, (none), 2, false, _, _, _, _)) rfl (Nat.le_of_ble_eq_true rfl)
set_option maxRecDepth 100000 in
theorem Xe_X7_areLike (d : Nat) (y0 : Nat) (y1 : Nat) (h : Hp) : X (d + 1) 62 [.ref y0, .ref y1] h = Rn (X d) 7 (some .boolean) false 3 cX7_areLike (0, [(0, .ref y0), (1, .ref y1)], [], h) := X_in (e := (yX7_areLike, 7, cX7_areLike, 3, (some .boolean), 2, false, _, _, _, _)) rfl (Nat.le_of_ble_eq_true rfl)
set_option maxRecDepth 100000 in
theorem Xe_X8_init (d : Nat) (a0 : Nat) (h : Hp) : X (d + 1) 63 [.ref a0] h = Rn (X d) 8 (none) true 1 cX8_init (0, [(0, .ref a0)], [], h) := X_in (e := (yX8_init, 8, cX8_init, 1, (none), 0, true, _, _, _, _)) rfl (Nat.le_of_ble_eq_true rfl)
set_option maxRecDepth 100000 in
theorem Xe_X8_value (d : Nat) (a0 : Nat) (y0 : Nat) (x1 : Int32) (x2 : Int32) (y3 : Nat) (x4 : Int32) (h : Hp) : X (d + 1) 64 [.ref a0, .ref y0, .int x1, .int x2, .ref y3, .int x4] h = Rn (X d) 8 (some .int) false 10 cX8_value (0, [(0, .ref a0), (1, .ref y0), (2, .int x1), (3, .int x2), (4, .ref y3), (5, .int x4)], [], h) := X_in (e := (yX8_value, 8, cX8_value, 10, (some .int), 5, false, _, _, _, _)) rfl (Nat.le_of_ble_eq_true rfl)
set_option maxRecDepth 100000 in
theorem Xe_X8_needed (d : Nat) (x0 : Int32) (h : Hp) : X (d + 1) 65 [.int x0] h = Rn (X d) 8 (some .int) false 1 cX8_needed (0, [(0, .int x0)], [], h) := X_in (e := (yX8_needed, 8, cX8_needed, 1, (some .int), 1, false, _, _, _, _)) rfl (Nat.le_of_ble_eq_true rfl)
set_option maxRecDepth 100000 in
theorem Xe_X8_joined (d : Nat) (x0 : Int32) (x1 : Int32) (x2 : Int32) (h : Hp) : X (d + 1) 66 [.int x0, .int x1, .int x2] h = Rn (X d) 8 (some .int) false 3 cX8_joined (0, [(0, .int x0), (1, .int x1), (2, .int x2)], [], h) := X_in (e := (yX8_joined, 8, cX8_joined, 3, (some .int), 3, false, _, _, _, _)) rfl (Nat.le_of_ble_eq_true rfl)
set_option maxRecDepth 100000 in
theorem Xe_X8_held (d : Nat) (x0 : Int64) (h : Hp) : X (d + 1) 67 [.long x0] h = Rn (X d) 8 (some .int) false 2 cX8_held (0, [(0, .long x0)], [], h) := X_in (e := (yX8_held, 8, cX8_held, 2, (some .int), 1, false, _, _, _, _)) rfl (Nat.le_of_ble_eq_true rfl)
set_option maxRecDepth 100000 in
theorem Xe_X8_askedOf (d : Nat) (a0 : Nat) (x0 : Int32) (x1 : Int32) (y2 : Nat) (x3 : Int32) (h : Hp) : X (d + 1) 68 [.ref a0, .int x0, .int x1, .ref y2, .int x3] h = Rn (X d) 8 (some .int) false 6 cX8_askedOf (0, [(0, .ref a0), (1, .int x0), (2, .int x1), (3, .ref y2), (4, .int x3)], [], h) := X_in (e := (yX8_askedOf, 8, cX8_askedOf, 6, (some .int), 4, false, _, _, _, _)) rfl (Nat.le_of_ble_eq_true rfl)
set_option maxRecDepth 100000 in
theorem Xe_X8_alone (d : Nat) (a0 : Nat) (x0 : Int32) (y1 : Nat) (x2 : Int32) (h : Hp) : X (d + 1) 69 [.ref a0, .int x0, .ref y1, .int x2] h = Rn (X d) 8 (some .int) false 4 cX8_alone (0, [(0, .ref a0), (1, .int x0), (2, .ref y1), (3, .int x2)], [], h) := X_in (e := (yX8_alone, 8, cX8_alone, 4, (some .int), 3, false, _, _, _, _)) rfl (Nat.le_of_ble_eq_true rfl)
set_option maxRecDepth 100000 in
theorem Xe_X9_init (d : Nat) (a0 : Nat) (h : Hp) : X (d + 1) 70 [.ref a0] h = Rn (X d) 9 (none) true 1 cX9_init (0, [(0, .ref a0)], [], h) := X_in (e := (yX9_init, 9, cX9_init, 1, (none), 0, true, _, _, _, _)) rfl (Nat.le_of_ble_eq_true rfl)
set_option maxRecDepth 100000 in
theorem Xe_X9_clear (d : Nat) (a0 : Nat) (h : Hp) : X (d + 1) 71 [.ref a0] h = Rn (X d) 9 (none) false 1 cX9_clear (0, [(0, .ref a0)], [], h) := X_in (e := (yX9_clear, 9, cX9_clear, 1, (none), 0, false, _, _, _, _)) rfl (Nat.le_of_ble_eq_true rfl)
set_option maxRecDepth 100000 in
theorem Xe_X9_findBusyClocks (d : Nat) (a0 : Nat) (h : Hp) : X (d + 1) 72 [.ref a0] h = Rn (X d) 9 (none) false 2 cX9_findBusyClocks (0, [(0, .ref a0)], [], h) := X_in (e := (yX9_findBusyClocks, 9, cX9_findBusyClocks, 2, (none), 0, false, _, _, _, _)) rfl (Nat.le_of_ble_eq_true rfl)
set_option maxRecDepth 100000 in
theorem Xe_X9_isTold (d : Nat) (a0 : Nat) (x0 : Int32) (h : Hp) : X (d + 1) 73 [.ref a0, .int x0] h = Rn (X d) 9 (some .boolean) false 2 cX9_isTold (0, [(0, .ref a0), (1, .int x0)], [], h) := X_in (e := (yX9_isTold, 9, cX9_isTold, 2, (some .boolean), 1, false, _, _, _, _)) rfl (Nat.le_of_ble_eq_true rfl)
set_option maxRecDepth 100000 in
theorem Xe_X9_mealsOf (d : Nat) (a0 : Nat) (x0 : Int32) (h : Hp) : X (d + 1) 74 [.ref a0, .int x0] h = Rn (X d) 9 (some .int) false 4 cX9_mealsOf (0, [(0, .ref a0), (1, .int x0)], [], h) := X_in (e := (yX9_mealsOf, 9, cX9_mealsOf, 4, (some .int), 1, false, _, _, _, _)) rfl (Nat.le_of_ble_eq_true rfl)
set_option maxRecDepth 100000 in
theorem Xe_X9_canKnead (d : Nat) (a0 : Nat) (x0 : Int32) (h : Hp) : X (d + 1) 75 [.ref a0, .int x0] h = Rn (X d) 9 (some .boolean) false 2 cX9_canKnead (0, [(0, .ref a0), (1, .int x0)], [], h) := X_in (e := (yX9_canKnead, 9, cX9_canKnead, 2, (some .boolean), 1, false, _, _, _, _)) rfl (Nat.le_of_ble_eq_true rfl)
set_option maxRecDepth 100000 in
theorem Xe_X9_isNamed (d : Nat) (a0 : Nat) (x0 : Int32) (h : Hp) : X (d + 1) 76 [.ref a0, .int x0] h = Rn (X d) 9 (some .boolean) false 3 cX9_isNamed (0, [(0, .ref a0), (1, .int x0)], [], h) := X_in (e := (yX9_isNamed, 9, cX9_isNamed, 3, (some .boolean), 1, false, _, _, _, _)) rfl (Nat.le_of_ble_eq_true rfl)
set_option maxRecDepth 100000 in
theorem Xe_X9_numberOf (d : Nat) (a0 : Nat) (x0 : Int32) (x1 : Int32) (h : Hp) : X (d + 1) 77 [.ref a0, .int x0, .int x1] h = Rn (X d) 9 (some .int) false 4 cX9_numberOf (0, [(0, .ref a0), (1, .int x0), (2, .int x1)], [], h) := X_in (e := (yX9_numberOf, 9, cX9_numberOf, 4, (some .int), 2, false, _, _, _, _)) rfl (Nat.le_of_ble_eq_true rfl)
set_option maxRecDepth 100000 in
theorem Xe_X10_init (d : Nat) (a0 : Nat) (h : Hp) : X (d + 1) 78 [.ref a0] h = Rn (X d) 10 (none) true 1 cX10_init (0, [(0, .ref a0)], [], h) := X_in (e := (yX10_init, 10, cX10_init, 1, (none), 0, true, _, _, _, _)) rfl (Nat.le_of_ble_eq_true rfl)
set_option maxRecDepth 100000 in
theorem Xe_X10_readTown (d : Nat) (a0 : Nat) (x0 : Int32) (y1 : Nat) (h : Hp) : X (d + 1) 79 [.ref a0, .int x0, .ref y1] h = Rn (X d) 10 (some .boolean) false 5 cX10_readTown (0, [(0, .ref a0), (1, .int x0), (2, .ref y1)], [], h) := X_in (e := (yX10_readTown, 10, cX10_readTown, 5, (some .boolean), 2, false, _, _, _, _)) rfl (Nat.le_of_ble_eq_true rfl)
set_option maxRecDepth 100000 in
theorem Xe_X10_readMood (d : Nat) (a0 : Nat) (y0 : Nat) (h : Hp) : X (d + 1) 80 [.ref a0, .ref y0] h = Rn (X d) 10 (some .boolean) false 2 cX10_readMood (0, [(0, .ref a0), (1, .ref y0)], [], h) := X_in (e := (yX10_readMood, 10, cX10_readMood, 2, (some .boolean), 1, false, _, _, _, _)) rfl (Nat.le_of_ble_eq_true rfl)
set_option maxRecDepth 100000 in
theorem Xe_X10_readPerson (d : Nat) (a0 : Nat) (y0 : Nat) (h : Hp) : X (d + 1) 81 [.ref a0, .ref y0] h = Rn (X d) 10 (some .boolean) false 5 cX10_readPerson (0, [(0, .ref a0), (1, .ref y0)], [], h) := X_in (e := (yX10_readPerson, 10, cX10_readPerson, 5, (some .boolean), 1, false, _, _, _, _)) rfl (Nat.le_of_ble_eq_true rfl)
set_option maxRecDepth 100000 in
theorem Xe_X10_readLoaf (d : Nat) (a0 : Nat) (y0 : Nat) (h : Hp) : X (d + 1) 82 [.ref a0, .ref y0] h = Rn (X d) 10 (some .boolean) false 7 cX10_readLoaf (0, [(0, .ref a0), (1, .ref y0)], [], h) := X_in (e := (yX10_readLoaf, 10, cX10_readLoaf, 7, (some .boolean), 1, false, _, _, _, _)) rfl (Nat.le_of_ble_eq_true rfl)
set_option maxRecDepth 100000 in
theorem Xe_X10_readMeal (d : Nat) (a0 : Nat) (y0 : Nat) (h : Hp) : X (d + 1) 83 [.ref a0, .ref y0] h = Rn (X d) 10 (some .boolean) false 6 cX10_readMeal (0, [(0, .ref a0), (1, .ref y0)], [], h) := X_in (e := (yX10_readMeal, 10, cX10_readMeal, 6, (some .boolean), 1, false, _, _, _, _)) rfl (Nat.le_of_ble_eq_true rfl)
set_option maxRecDepth 100000 in
theorem Xe_X10_readDeed (d : Nat) (a0 : Nat) (y0 : Nat) (h : Hp) : X (d + 1) 84 [.ref a0, .ref y0] h = Rn (X d) 10 (some .boolean) false 4 cX10_readDeed (0, [(0, .ref a0), (1, .ref y0)], [], h) := X_in (e := (yX10_readDeed, 10, cX10_readDeed, 4, (some .boolean), 1, false, _, _, _, _)) rfl (Nat.le_of_ble_eq_true rfl)
set_option maxRecDepth 100000 in
theorem Xe_X10_readOnce (d : Nat) (a0 : Nat) (y0 : Nat) (x1 : Int32) (h : Hp) : X (d + 1) 85 [.ref a0, .ref y0, .int x1] h = Rn (X d) 10 (some .boolean) false 4 cX10_readOnce (0, [(0, .ref a0), (1, .ref y0), (2, .int x1)], [], h) := X_in (e := (yX10_readOnce, 10, cX10_readOnce, 4, (some .boolean), 2, false, _, _, _, _)) rfl (Nat.le_of_ble_eq_true rfl)
set_option maxRecDepth 100000 in
theorem Xe_X10_readSetting (d : Nat) (a0 : Nat) (y0 : Nat) (h : Hp) : X (d + 1) 86 [.ref a0, .ref y0] h = Rn (X d) 10 (some .boolean) false 4 cX10_readSetting (0, [(0, .ref a0), (1, .ref y0)], [], h) := X_in (e := (yX10_readSetting, 10, cX10_readSetting, 4, (some .boolean), 1, false, _, _, _, _)) rfl (Nat.le_of_ble_eq_true rfl)
set_option maxRecDepth 100000 in
theorem Xe_X10_readNew (d : Nat) (a0 : Nat) (y0 : Nat) (x1 : Int32) (h : Hp) : X (d + 1) 87 [.ref a0, .ref y0, .int x1] h = Rn (X d) 10 (some .boolean) false 3 cX10_readNew (0, [(0, .ref a0), (1, .ref y0), (2, .int x1)], [], h) := X_in (e := (yX10_readNew, 10, cX10_readNew, 3, (some .boolean), 2, false, _, _, _, _)) rfl (Nat.le_of_ble_eq_true rfl)
set_option maxRecDepth 100000 in
theorem Xe_X10_findNamed (d : Nat) (a0 : Nat) (y0 : Nat) (x1 : Int32) (h : Hp) : X (d + 1) 88 [.ref a0, .ref y0, .int x1] h = Rn (X d) 10 (some .int) false 4 cX10_findNamed (0, [(0, .ref a0), (1, .ref y0), (2, .int x1)], [], h) := X_in (e := (yX10_findNamed, 10, cX10_findNamed, 4, (some .int), 2, false, _, _, _, _)) rfl (Nat.le_of_ble_eq_true rfl)
set_option maxRecDepth 100000 in
theorem Xe_X11_init (d : Nat) (a0 : Nat) (h : Hp) : X (d + 1) 89 [.ref a0] h = Rn (X d) 11 (none) true 2 cX11_init (0, [(0, .ref a0)], [], h) := X_in (e := (yX11_init, 11, cX11_init, 2, (none), 0, true, _, _, _, _)) rfl (Nat.le_of_ble_eq_true rfl)
set_option maxRecDepth 100000 in
theorem Xe_X11_feed (d : Nat) (a0 : Nat) (x0 : Int32) (x1 : Int32) (x2 : Int32) (x3 : Int32) (x4 : Int32) (h : Hp) : X (d + 1) 90 [.ref a0, .int x0, .int x1, .int x2, .int x3, .int x4] h = Rn (X d) 11 (some .int) false 6 cX11_feed (0, [(0, .ref a0), (1, .int x0), (2, .int x1), (3, .int x2), (4, .int x3), (5, .int x4)], [], h) := X_in (e := (yX11_feed, 11, cX11_feed, 6, (some .int), 5, false, _, _, _, _)) rfl (Nat.le_of_ble_eq_true rfl)
set_option maxRecDepth 100000 in
theorem Xe_X11_end (d : Nat) (a0 : Nat) (x0 : Int32) (h : Hp) : X (d + 1) 91 [.ref a0, .int x0] h = Rn (X d) 11 (some .boolean) false 2 cX11_end (0, [(0, .ref a0), (1, .int x0)], [], h) := X_in (e := (yX11_end, 11, cX11_end, 2, (some .boolean), 1, false, _, _, _, _)) rfl (Nat.le_of_ble_eq_true rfl)
set_option maxRecDepth 100000 in
theorem Xe_X11_town (d : Nat) (a0 : Nat) (h : Hp) : X (d + 1) 92 [.ref a0] h = Rn (X d) 11 (some .int) false 3 cX11_town (0, [(0, .ref a0)], [], h) := X_in (e := (yX11_town, 11, cX11_town, 3, (some .int), 0, false, _, _, _, _)) rfl (Nat.le_of_ble_eq_true rfl)
set_option maxRecDepth 100000 in
theorem Xe_X11_fault (d : Nat) (a0 : Nat) (x0 : Int32) (h : Hp) : X (d + 1) 93 [.ref a0, .int x0] h = Rn (X d) 11 (some .int) false 2 cX11_fault (0, [(0, .ref a0), (1, .int x0)], [], h) := X_in (e := (yX11_fault, 11, cX11_fault, 2, (some .int), 1, false, _, _, _, _)) rfl (Nat.le_of_ble_eq_true rfl)
set_option maxRecDepth 100000 in
theorem Xe_X11_has (d : Nat) (a0 : Nat) (x0 : Int32) (h : Hp) : X (d + 1) 94 [.ref a0, .int x0] h = Rn (X d) 11 (some .int) false 2 cX11_has (0, [(0, .ref a0), (1, .int x0)], [], h) := X_in (e := (yX11_has, 11, cX11_has, 2, (some .int), 1, false, _, _, _, _)) rfl (Nat.le_of_ble_eq_true rfl)
set_option maxRecDepth 100000 in
theorem Xe_X11_letter (d : Nat) (a0 : Nat) (x0 : Int32) (x1 : Int32) (x2 : Int32) (h : Hp) : X (d + 1) 95 [.ref a0, .int x0, .int x1, .int x2] h = Rn (X d) 11 (some .int) false 5 cX11_letter (0, [(0, .ref a0), (1, .int x0), (2, .int x1), (3, .int x2)], [], h) := X_in (e := (yX11_letter, 11, cX11_letter, 5, (some .int), 3, false, _, _, _, _)) rfl (Nat.le_of_ble_eq_true rfl)
set_option maxRecDepth 100000 in
theorem Xe_X11_feels (d : Nat) (a0 : Nat) (x0 : Int32) (x1 : Int32) (x2 : Int32) (h : Hp) : X (d + 1) 96 [.ref a0, .int x0, .int x1, .int x2] h = Rn (X d) 11 (some .int) false 4 cX11_feels (0, [(0, .ref a0), (1, .int x0), (2, .int x1), (3, .int x2)], [], h) := X_in (e := (yX11_feels, 11, cX11_feels, 4, (some .int), 3, false, _, _, _, _)) rfl (Nat.le_of_ble_eq_true rfl)
set_option maxRecDepth 100000 in
theorem Xe_X11_bread (d : Nat) (a0 : Nat) (x0 : Int32) (x1 : Int32) (h : Hp) : X (d + 1) 97 [.ref a0, .int x0, .int x1] h = Rn (X d) 11 (some .int) false 3 cX11_bread (0, [(0, .ref a0), (1, .int x0), (2, .int x1)], [], h) := X_in (e := (yX11_bread, 11, cX11_bread, 3, (some .int), 2, false, _, _, _, _)) rfl (Nat.le_of_ble_eq_true rfl)
set_option maxRecDepth 100000 in
theorem Xe_X11_loaf (d : Nat) (a0 : Nat) (x0 : Int32) (x1 : Int32) (h : Hp) : X (d + 1) 98 [.ref a0, .int x0, .int x1] h = Rn (X d) 11 (some .int) false 3 cX11_loaf (0, [(0, .ref a0), (1, .int x0), (2, .int x1)], [], h) := X_in (e := (yX11_loaf, 11, cX11_loaf, 3, (some .int), 2, false, _, _, _, _)) rfl (Nat.le_of_ble_eq_true rfl)
set_option maxRecDepth 100000 in
theorem Xe_X11_does (d : Nat) (a0 : Nat) (x0 : Int32) (x1 : Int32) (h : Hp) : X (d + 1) 99 [.ref a0, .int x0, .int x1] h = Rn (X d) 11 (some .int) false 3 cX11_does (0, [(0, .ref a0), (1, .int x0), (2, .int x1)], [], h) := X_in (e := (yX11_does, 11, cX11_does, 3, (some .int), 2, false, _, _, _, _)) rfl (Nat.le_of_ble_eq_true rfl)
set_option maxRecDepth 100000 in
theorem Xe_X11_later (d : Nat) (a0 : Nat) (x0 : Int32) (x1 : Int32) (x2 : Int32) (h : Hp) : X (d + 1) 100 [.ref a0, .int x0, .int x1, .int x2] h = Rn (X d) 11 (some .int) false 4 cX11_later (0, [(0, .ref a0), (1, .int x0), (2, .int x1), (3, .int x2)], [], h) := X_in (e := (yX11_later, 11, cX11_later, 4, (some .int), 3, false, _, _, _, _)) rfl (Nat.le_of_ble_eq_true rfl)
set_option maxRecDepth 100000 in
theorem Xe_X11_first (d : Nat) (a0 : Nat) (x0 : Int32) (h : Hp) : X (d + 1) 101 [.ref a0, .int x0] h = Rn (X d) 11 (some .int) false 5 cX11_first (0, [(0, .ref a0), (1, .int x0)], [], h) := X_in (e := (yX11_first, 11, cX11_first, 5, (some .int), 1, false, _, _, _, _)) rfl (Nat.le_of_ble_eq_true rfl)
set_option maxRecDepth 100000 in
theorem Xe_X11_often (d : Nat) (a0 : Nat) (x0 : Int32) (x1 : Int32) (x2 : Int32) (h : Hp) : X (d + 1) 102 [.ref a0, .int x0, .int x1, .int x2] h = Rn (X d) 11 (some .int) false 6 cX11_often (0, [(0, .ref a0), (1, .int x0), (2, .int x1), (3, .int x2)], [], h) := X_in (e := (yX11_often, 11, cX11_often, 6, (some .int), 3, false, _, _, _, _)) rfl (Nat.le_of_ble_eq_true rfl)
set_option maxRecDepth 100000 in
theorem Xe_X11_again (d : Nat) (a0 : Nat) (x0 : Int32) (h : Hp) : X (d + 1) 103 [.ref a0, .int x0] h = Rn (X d) 11 (some .int) false 4 cX11_again (0, [(0, .ref a0), (1, .int x0)], [], h) := X_in (e := (yX11_again, 11, cX11_again, 4, (some .int), 1, false, _, _, _, _)) rfl (Nat.le_of_ble_eq_true rfl)
set_option maxRecDepth 100000 in
theorem Xe_X11_hands (d : Nat) (a0 : Nat) (x0 : Int32) (x1 : Int32) (x2 : Int32) (x3 : Int32) (x4 : Int32) (x5 : Int32) (h : Hp) : X (d + 1) 104 [.ref a0, .int x0, .int x1, .int x2, .int x3, .int x4, .int x5] h = Rn (X d) 11 (some .int) false 13 cX11_hands (0, [(0, .ref a0), (1, .int x0), (2, .int x1), (3, .int x2), (4, .int x3), (5, .int x4), (6, .int x5)], [], h) := X_in (e := (yX11_hands, 11, cX11_hands, 13, (some .int), 6, false, _, _, _, _)) rfl (Nat.le_of_ble_eq_true rfl)
set_option maxRecDepth 100000 in
theorem Xe_X11_blend (d : Nat) (a0 : Nat) (x0 : Int32) (x1 : Int32) (x2 : Int32) (x3 : Int32) (x4 : Int32) (h : Hp) : X (d + 1) 105 [.ref a0, .int x0, .int x1, .int x2, .int x3, .int x4] h = Rn (X d) 11 (some .int) false 14 cX11_blend (0, [(0, .ref a0), (1, .int x0), (2, .int x1), (3, .int x2), (4, .int x3), (5, .int x4)], [], h) := X_in (e := (yX11_blend, 11, cX11_blend, 14, (some .int), 5, false, _, _, _, _)) rfl (Nat.le_of_ble_eq_true rfl)
set_option maxRecDepth 100000 in
theorem Xe_X11_left (d : Nat) (a0 : Nat) (x0 : Int32) (x1 : Int32) (x2 : Int32) (h : Hp) : X (d + 1) 106 [.ref a0, .int x0, .int x1, .int x2] h = Rn (X d) 11 (some .int) false 11 cX11_left (0, [(0, .ref a0), (1, .int x0), (2, .int x1), (3, .int x2)], [], h) := X_in (e := (yX11_left, 11, cX11_left, 11, (some .int), 3, false, _, _, _, _)) rfl (Nat.le_of_ble_eq_true rfl)
set_option maxRecDepth 100000 in
theorem Xe_X11_votes (d : Nat) (a0 : Nat) (x0 : Int32) (x1 : Int32) (x2 : Int32) (h : Hp) : X (d + 1) 107 [.ref a0, .int x0, .int x1, .int x2] h = Rn (X d) 11 (some .int) false 9 cX11_votes (0, [(0, .ref a0), (1, .int x0), (2, .int x1), (3, .int x2)], [], h) := X_in (e := (yX11_votes, 11, cX11_votes, 9, (some .int), 3, false, _, _, _, _)) rfl (Nat.le_of_ble_eq_true rfl)
set_option maxRecDepth 100000 in
theorem Xe_X11_go (d : Nat) (a0 : Nat) (x0 : Int32) (h : Hp) : X (d + 1) 108 [.ref a0, .int x0] h = Rn (X d) 11 (some .int) false 2 cX11_go (0, [(0, .ref a0), (1, .int x0)], [], h) := X_in (e := (yX11_go, 11, cX11_go, 2, (some .int), 1, false, _, _, _, _)) rfl (Nat.le_of_ble_eq_true rfl)
set_option maxRecDepth 100000 in
theorem Xe_X11_knead (d : Nat) (a0 : Nat) (x0 : Int32) (x1 : Int32) (h : Hp) : X (d + 1) 109 [.ref a0, .int x0, .int x1] h = Rn (X d) 11 (some .int) false 4 cX11_knead (0, [(0, .ref a0), (1, .int x0), (2, .int x1)], [], h) := X_in (e := (yX11_knead, 11, cX11_knead, 4, (some .int), 2, false, _, _, _, _)) rfl (Nat.le_of_ble_eq_true rfl)
set_option maxRecDepth 100000 in
theorem Xe_X11_calm (d : Nat) (a0 : Nat) (x0 : Int32) (x1 : Int32) (x2 : Int32) (h : Hp) : X (d + 1) 110 [.ref a0, .int x0, .int x1, .int x2] h = Rn (X d) 11 (some .int) false 5 cX11_calm (0, [(0, .ref a0), (1, .int x0), (2, .int x1), (3, .int x2)], [], h) := X_in (e := (yX11_calm, 11, cX11_calm, 5, (some .int), 3, false, _, _, _, _)) rfl (Nat.le_of_ble_eq_true rfl)
set_option maxRecDepth 100000 in
theorem Xe_X11_days (d : Nat) (a0 : Nat) (x0 : Int32) (h : Hp) : X (d + 1) 111 [.ref a0, .int x0] h = Rn (X d) 11 (some .int) false 3 cX11_days (0, [(0, .ref a0), (1, .int x0)], [], h) := X_in (e := (yX11_days, 11, cX11_days, 3, (some .int), 1, false, _, _, _, _)) rfl (Nat.le_of_ble_eq_true rfl)
set_option maxRecDepth 100000 in
theorem Xe_X11_undo (d : Nat) (a0 : Nat) (h : Hp) : X (d + 1) 112 [.ref a0] h = Rn (X d) 11 (some .boolean) false 1 cX11_undo (0, [(0, .ref a0)], [], h) := X_in (e := (yX11_undo, 11, cX11_undo, 1, (some .boolean), 0, false, _, _, _, _)) rfl (Nat.le_of_ble_eq_true rfl)
set_option maxRecDepth 100000 in
theorem Xe_X11_seed (d : Nat) (a0 : Nat) (x0 : Int32) (h : Hp) : X (d + 1) 113 [.ref a0, .int x0] h = Rn (X d) 11 (some .boolean) false 2 cX11_seed (0, [(0, .ref a0), (1, .int x0)], [], h) := X_in (e := (yX11_seed, 11, cX11_seed, 2, (some .boolean), 1, false, _, _, _, _)) rfl (Nat.le_of_ble_eq_true rfl)
set_option maxRecDepth 100000 in
theorem Xe_X11_see (d : Nat) (a0 : Nat) (h : Hp) : X (d + 1) 114 [.ref a0] h = Rn (X d) 11 (some .int) false 2 cX11_see (0, [(0, .ref a0)], [], h) := X_in (e := (yX11_see, 11, cX11_see, 2, (some .int), 0, false, _, _, _, _)) rfl (Nat.le_of_ble_eq_true rfl)
set_option maxRecDepth 100000 in
theorem Xe_X11_kneaders (d : Nat) (a0 : Nat) (x0 : Int32) (x1 : Int32) (h : Hp) : X (d + 1) 115 [.ref a0, .int x0, .int x1] h = Rn (X d) 11 (some .int) false 3 cX11_kneaders (0, [(0, .ref a0), (1, .int x0), (2, .int x1)], [], h) := X_in (e := (yX11_kneaders, 11, cX11_kneaders, 3, (some .int), 2, false, _, _, _, _)) rfl (Nat.le_of_ble_eq_true rfl)
set_option maxRecDepth 100000 in
theorem Xe_X11_look (d : Nat) (a0 : Nat) (x0 : Int32) (x1 : Int32) (x2 : Int32) (h : Hp) : X (d + 1) 116 [.ref a0, .int x0, .int x1, .int x2] h = Rn (X d) 11 (some .int) false 10 cX11_look (0, [(0, .ref a0), (1, .int x0), (2, .int x1), (3, .int x2)], [], h) := X_in (e := (yX11_look, 11, cX11_look, 10, (some .int), 3, false, _, _, _, _)) rfl (Nat.le_of_ble_eq_true rfl)
set_option maxRecDepth 100000 in
theorem Xe_X11_ask (d : Nat) (a0 : Nat) (x0 : Int32) (h : Hp) : X (d + 1) 117 [.ref a0, .int x0] h = Rn (X d) 11 (some .long) false 4 cX11_ask (0, [(0, .ref a0), (1, .int x0)], [], h) := X_in (e := (yX11_ask, 11, cX11_ask, 4, (some .long), 1, false, _, _, _, _)) rfl (Nat.le_of_ble_eq_true rfl)
set_option maxRecDepth 100000 in
theorem Xe_X11_image (d : Nat) (a0 : Nat) (h : Hp) : X (d + 1) 118 [.ref a0] h = Rn (X d) 11 (some .int) false 1 cX11_image (0, [(0, .ref a0)], [], h) := X_in (e := (yX11_image, 11, cX11_image, 1, (some .int), 0, false, _, _, _, _)) rfl (Nat.le_of_ble_eq_true rfl)
set_option maxRecDepth 100000 in
theorem Xe_X11_octet (d : Nat) (a0 : Nat) (x0 : Int32) (h : Hp) : X (d + 1) 119 [.ref a0, .int x0] h = Rn (X d) 11 (some .int) false 2 cX11_octet (0, [(0, .ref a0), (1, .int x0)], [], h) := X_in (e := (yX11_octet, 11, cX11_octet, 2, (some .int), 1, false, _, _, _, _)) rfl (Nat.le_of_ble_eq_true rfl)
set_option maxRecDepth 100000 in
theorem Xe_X11_on (d : Nat) (a0 : Nat) (h : Hp) : X (d + 1) 120 [.ref a0] h = Rn (X d) 11 (some .boolean) false 2 cX11_on (0, [(0, .ref a0)], [], h) := X_in (e := (yX11_on, 11, cX11_on, 2, (some .boolean), 0, false, _, _, _, _)) rfl (Nat.le_of_ble_eq_true rfl)
set_option maxRecDepth 100000 in
theorem Xe_X11_status (d : Nat) (a0 : Nat) (x0 : Int32) (h : Hp) : X (d + 1) 121 [.ref a0, .int x0] h = Rn (X d) 11 (some .int) false 2 cX11_status (0, [(0, .ref a0), (1, .int x0)], [], h) := X_in (e := (yX11_status, 11, cX11_status, 2, (some .int), 1, false, _, _, _, _)) rfl (Nat.le_of_ble_eq_true rfl)
set_option maxRecDepth 100000 in
theorem Xe_X11_refuse (d : Nat) (a0 : Nat) (x0 : Int32) (h : Hp) : X (d + 1) 122 [.ref a0, .int x0] h = Rn (X d) 11 (some .int) false 2 cX11_refuse (0, [(0, .ref a0), (1, .int x0)], [], h) := X_in (e := (yX11_refuse, 11, cX11_refuse, 2, (some .int), 1, false, _, _, _, _)) rfl (Nat.le_of_ble_eq_true rfl)
set_option maxRecDepth 100000 in
theorem Xe_X11_putBytes (d : Nat) (a0 : Nat) (x0 : Int32) (h : Hp) : X (d + 1) 123 [.ref a0, .int x0] h = Rn (X d) 11 (none) false 3 cX11_putBytes (0, [(0, .ref a0), (1, .int x0)], [], h) := X_in (e := (yX11_putBytes, 11, cX11_putBytes, 3, (none), 1, false, _, _, _, _)) rfl (Nat.le_of_ble_eq_true rfl)
set_option maxRecDepth 100000 in
theorem Xe_X11_isThere (d : Nat) (a0 : Nat) (x0 : Int32) (x1 : Int32) (h : Hp) : X (d + 1) 124 [.ref a0, .int x0, .int x1] h = Rn (X d) 11 (some .boolean) false 3 cX11_isThere (0, [(0, .ref a0), (1, .int x0), (2, .int x1)], [], h) := X_in (e := (yX11_isThere, 11, cX11_isThere, 3, (some .boolean), 2, false, _, _, _, _)) rfl (Nat.le_of_ble_eq_true rfl)
set_option maxRecDepth 100000 in
theorem Xe_X11_areThere (d : Nat) (a0 : Nat) (x0 : Int32) (x1 : Int32) (x2 : Int32) (h : Hp) : X (d + 1) 125 [.ref a0, .int x0, .int x1, .int x2] h = Rn (X d) 11 (some .boolean) false 4 cX11_areThere (0, [(0, .ref a0), (1, .int x0), (2, .int x1), (3, .int x2)], [], h) := X_in (e := (yX11_areThere, 11, cX11_areThere, 4, (some .boolean), 3, false, _, _, _, _)) rfl (Nat.le_of_ble_eq_true rfl)
set_option maxRecDepth 100000 in
theorem Xe_X11_isAhead (d : Nat) (a0 : Nat) (x0 : Int32) (h : Hp) : X (d + 1) 126 [.ref a0, .int x0] h = Rn (X d) 11 (some .boolean) false 2 cX11_isAhead (0, [(0, .ref a0), (1, .int x0)], [], h) := X_in (e := (yX11_isAhead, 11, cX11_isAhead, 2, (some .boolean), 1, false, _, _, _, _)) rfl (Nat.le_of_ble_eq_true rfl)
set_option maxRecDepth 100000 in
theorem Xe_X11_isFelt (d : Nat) (x0 : Int32) (h : Hp) : X (d + 1) 127 [.int x0] h = Rn (X d) 11 (some .boolean) false 1 cX11_isFelt (0, [(0, .int x0)], [], h) := X_in (e := (yX11_isFelt, 11, cX11_isFelt, 1, (some .boolean), 1, false, _, _, _, _)) rfl (Nat.le_of_ble_eq_true rfl)
set_option maxRecDepth 100000 in
theorem Xe_X11_asFelt (d : Nat) (x0 : Int32) (h : Hp) : X (d + 1) 128 [.int x0] h = Rn (X d) 11 (some .int) false 1 cX11_asFelt (0, [(0, .int x0)], [], h) := X_in (e := (yX11_asFelt, 11, cX11_asFelt, 1, (some .int), 1, false, _, _, _, _)) rfl (Nat.le_of_ble_eq_true rfl)
set_option maxRecDepth 100000 in
theorem Xe_X11_deedsDoneNow (d : Nat) (a0 : Nat) (h : Hp) : X (d + 1) 129 [.ref a0] h = Rn (X d) 11 (some .int) false 3 cX11_deedsDoneNow (0, [(0, .ref a0)], [], h) := X_in (e := (yX11_deedsDoneNow, 11, cX11_deedsDoneNow, 3, (some .int), 0, false, _, _, _, _)) rfl (Nat.le_of_ble_eq_true rfl)
set_option maxRecDepth 100000 in
theorem Xe_X11_lowestOf (d : Nat) (x0 : Int32) (h : Hp) : X (d + 1) 130 [.int x0] h = Rn (X d) 11 (some .int) false 2 cX11_lowestOf (0, [(0, .int x0)], [], h) := X_in (e := (yX11_lowestOf, 11, cX11_lowestOf, 2, (some .int), 1, false, _, _, _, _)) rfl (Nat.le_of_ble_eq_true rfl)
set_option maxRecDepth 100000 in
theorem Xe_X11_unlikeness (d : Nat) (a0 : Nat) (x0 : Int32) (x1 : Int32) (h : Hp) : X (d + 1) 131 [.ref a0, .int x0, .int x1] h = Rn (X d) 11 (some .int) false 5 cX11_unlikeness (0, [(0, .ref a0), (1, .int x0), (2, .int x1)], [], h) := X_in (e := (yX11_unlikeness, 11, cX11_unlikeness, 5, (some .int), 2, false, _, _, _, _)) rfl (Nat.le_of_ble_eq_true rfl)
set_option maxRecDepth 100000 in
theorem Xe_X11_followWhim (d : Nat) (a0 : Nat) (h : Hp) : X (d + 1) 132 [.ref a0] h = Rn (X d) 11 (none) false 7 cX11_followWhim (0, [(0, .ref a0)], [], h) := X_in (e := (yX11_followWhim, 11, cX11_followWhim, 7, (none), 0, false, _, _, _, _)) rfl (Nat.le_of_ble_eq_true rfl)
set_option maxRecDepth 100000 in
theorem Xe_X11_draw (d : Nat) (a0 : Nat) (x0 : Int32) (h : Hp) : X (d + 1) 133 [.ref a0, .int x0] h = Rn (X d) 11 (some .int) false 2 cX11_draw (0, [(0, .ref a0), (1, .int x0)], [], h) := X_in (e := (yX11_draw, 11, cX11_draw, 2, (some .int), 1, false, _, _, _, _)) rfl (Nat.le_of_ble_eq_true rfl)
set_option maxRecDepth 100000 in
theorem Xe_X11_answer (d : Nat) (a0 : Nat) (x0 : Int32) (x1 : Int32) (h : Hp) : X (d + 1) 134 [.ref a0, .int x0, .int x1] h = Rn (X d) 11 (some .long) false 7 cX11_answer (0, [(0, .ref a0), (1, .int x0), (2, .int x1)], [], h) := X_in (e := (yX11_answer, 11, cX11_answer, 7, (some .long), 2, false, _, _, _, _)) rfl (Nat.le_of_ble_eq_true rfl)
set_option maxRecDepth 100000 in
theorem Xe_X12_init (d : Nat) (a0 : Nat) (h : Hp) : X (d + 1) 135 [.ref a0] h = Rn (X d) 12 (none) true 1 cX12_init (0, [(0, .ref a0)], [], h) := X_in (e := (yX12_init, 12, cX12_init, 1, (none), 0, true, _, _, _, _)) rfl (Nat.le_of_ble_eq_true rfl)
set_option maxRecDepth 100000 in
theorem Xe_X12_isIn (d : Nat) (x0 : Int64) (x1 : Int64) (x2 : Int64) (h : Hp) : X (d + 1) 136 [.long x0, .long x1, .long x2] h = Rn (X d) 12 (some .boolean) false 6 cX12_isIn (0, [(0, .long x0), (2, .long x1), (4, .long x2)], [], h) := X_in (e := (yX12_isIn, 12, cX12_isIn, 6, (some .boolean), 3, false, _, _, _, _)) rfl (Nat.le_of_ble_eq_true rfl)
set_option maxRecDepth 100000 in
theorem Xe_X12_feed (d : Nat) (a0 : Nat) (x0 : Int32) (x1 : Int32) (x2 : Int32) (x3 : Int32) (x4 : Int32) (h : Hp) : X (d + 1) 137 [.ref a0, .int x0, .int x1, .int x2, .int x3, .int x4] h = Rn (X d) 12 (some .int) false 8 cX12_feed (0, [(0, .ref a0), (1, .int x0), (2, .int x1), (3, .int x2), (4, .int x3), (5, .int x4)], [], h) := X_in (e := (yX12_feed, 12, cX12_feed, 8, (some .int), 5, false, _, _, _, _)) rfl (Nat.le_of_ble_eq_true rfl)
set_option maxRecDepth 100000 in
theorem Xe_X12_end (d : Nat) (a0 : Nat) (x0 : Int32) (h : Hp) : X (d + 1) 138 [.ref a0, .int x0] h = Rn (X d) 12 (some .boolean) false 2 cX12_end (0, [(0, .ref a0), (1, .int x0)], [], h) := X_in (e := (yX12_end, 12, cX12_end, 2, (some .boolean), 1, false, _, _, _, _)) rfl (Nat.le_of_ble_eq_true rfl)
set_option maxRecDepth 100000 in
theorem Xe_X12_fail (d : Nat) (a0 : Nat) (x0 : Int32) (x1 : Int32) (h : Hp) : X (d + 1) 139 [.ref a0, .int x0, .int x1] h = Rn (X d) 12 (none) false 3 cX12_fail (0, [(0, .ref a0), (1, .int x0), (2, .int x1)], [], h) := X_in (e := (yX12_fail, 12, cX12_fail, 3, (none), 2, false, _, _, _, _)) rfl (Nat.le_of_ble_eq_true rfl)
set_option maxRecDepth 100000 in
theorem Xe_X12_isLetter (d : Nat) (x0 : Int32) (h : Hp) : X (d + 1) 140 [.int x0] h = Rn (X d) 12 (some .boolean) false 1 cX12_isLetter (0, [(0, .int x0)], [], h) := X_in (e := (yX12_isLetter, 12, cX12_isLetter, 1, (some .boolean), 1, false, _, _, _, _)) rfl (Nat.le_of_ble_eq_true rfl)
set_option maxRecDepth 100000 in
theorem Xe_X12_isDigit (d : Nat) (x0 : Int32) (h : Hp) : X (d + 1) 141 [.int x0] h = Rn (X d) 12 (some .boolean) false 1 cX12_isDigit (0, [(0, .int x0)], [], h) := X_in (e := (yX12_isDigit, 12, cX12_isDigit, 1, (some .boolean), 1, false, _, _, _, _)) rfl (Nat.le_of_ble_eq_true rfl)
set_option maxRecDepth 100000 in
theorem Xe_X12_peeks (d : Nat) (a0 : Nat) (h : Hp) : X (d + 1) 142 [.ref a0] h = Rn (X d) 12 (some .int) false 1 cX12_peeks (0, [(0, .ref a0)], [], h) := X_in (e := (yX12_peeks, 12, cX12_peeks, 1, (some .int), 0, false, _, _, _, _)) rfl (Nat.le_of_ble_eq_true rfl)
set_option maxRecDepth 100000 in
theorem Xe_X12_isHere (d : Nat) (a0 : Nat) (y0 : Nat) (h : Hp) : X (d + 1) 143 [.ref a0, .ref y0] h = Rn (X d) 12 (some .boolean) false 4 cX12_isHere (0, [(0, .ref a0), (1, .ref y0)], [], h) := X_in (e := (yX12_isHere, 12, cX12_isHere, 4, (some .boolean), 1, false, _, _, _, _)) rfl (Nat.le_of_ble_eq_true rfl)
set_option maxRecDepth 100000 in
theorem Xe_X12_takes (d : Nat) (a0 : Nat) (y0 : Nat) (h : Hp) : X (d + 1) 144 [.ref a0, .ref y0] h = Rn (X d) 12 (some .boolean) false 2 cX12_takes (0, [(0, .ref a0), (1, .ref y0)], [], h) := X_in (e := (yX12_takes, 12, cX12_takes, 2, (some .boolean), 1, false, _, _, _, _)) rfl (Nat.le_of_ble_eq_true rfl)
set_option maxRecDepth 100000 in
theorem Xe_X12_asks (d : Nat) (a0 : Nat) (y0 : Nat) (h : Hp) : X (d + 1) 145 [.ref a0, .ref y0] h = Rn (X d) 12 (none) false 2 cX12_asks (0, [(0, .ref a0), (1, .ref y0)], [], h) := X_in (e := (yX12_asks, 12, cX12_asks, 2, (none), 1, false, _, _, _, _)) rfl (Nat.le_of_ble_eq_true rfl)
set_option maxRecDepth 100000 in
theorem Xe_X12_takesSign (d : Nat) (a0 : Nat) (x0 : Int32) (h : Hp) : X (d + 1) 146 [.ref a0, .int x0] h = Rn (X d) 12 (some .boolean) false 2 cX12_takesSign (0, [(0, .ref a0), (1, .int x0)], [], h) := X_in (e := (yX12_takesSign, 12, cX12_takesSign, 2, (some .boolean), 1, false, _, _, _, _)) rfl (Nat.le_of_ble_eq_true rfl)
set_option maxRecDepth 100000 in
theorem Xe_X12_asksSign (d : Nat) (a0 : Nat) (x0 : Int32) (h : Hp) : X (d + 1) 147 [.ref a0, .int x0] h = Rn (X d) 12 (none) false 2 cX12_asksSign (0, [(0, .ref a0), (1, .int x0)], [], h) := X_in (e := (yX12_asksSign, 12, cX12_asksSign, 2, (none), 1, false, _, _, _, _)) rfl (Nat.le_of_ble_eq_true rfl)
set_option maxRecDepth 100000 in
theorem Xe_X12_number (d : Nat) (a0 : Nat) (x0 : Int32) (x1 : Int32) (h : Hp) : X (d + 1) 148 [.ref a0, .int x0, .int x1] h = Rn (X d) 12 (some .int) false 5 cX12_number (0, [(0, .ref a0), (1, .int x0), (2, .int x1)], [], h) := X_in (e := (yX12_number, 12, cX12_number, 5, (some .int), 2, false, _, _, _, _)) rfl (Nat.le_of_ble_eq_true rfl)
set_option maxRecDepth 100000 in
theorem Xe_X12_isOwnHere (d : Nat) (a0 : Nat) (h : Hp) : X (d + 1) 149 [.ref a0] h = Rn (X d) 12 (some .boolean) false 2 cX12_isOwnHere (0, [(0, .ref a0)], [], h) := X_in (e := (yX12_isOwnHere, 12, cX12_isOwnHere, 2, (some .boolean), 0, false, _, _, _, _)) rfl (Nat.le_of_ble_eq_true rfl)
set_option maxRecDepth 100000 in
theorem Xe_X12_name (d : Nat) (a0 : Nat) (h : Hp) : X (d + 1) 150 [.ref a0] h = Rn (X d) 12 (some .long) false 3 cX12_name (0, [(0, .ref a0)], [], h) := X_in (e := (yX12_name, 12, cX12_name, 3, (some .long), 0, false, _, _, _, _)) rfl (Nat.le_of_ble_eq_true rfl)
set_option maxRecDepth 100000 in
theorem Xe_X12_isAllowed (d : Nat) (a0 : Nat) (x0 : Int32) (h : Hp) : X (d + 1) 151 [.ref a0, .int x0] h = Rn (X d) 12 (some .boolean) false 2 cX12_isAllowed (0, [(0, .ref a0), (1, .int x0)], [], h) := X_in (e := (yX12_isAllowed, 12, cX12_isAllowed, 2, (some .boolean), 1, false, _, _, _, _)) rfl (Nat.le_of_ble_eq_true rfl)
set_option maxRecDepth 100000 in
theorem Xe_X12_isFull (d : Nat) (a0 : Nat) (x0 : Int32) (x1 : Int32) (x2 : Int32) (h : Hp) : X (d + 1) 152 [.ref a0, .int x0, .int x1, .int x2] h = Rn (X d) 12 (some .boolean) false 4 cX12_isFull (0, [(0, .ref a0), (1, .int x0), (2, .int x1), (3, .int x2)], [], h) := X_in (e := (yX12_isFull, 12, cX12_isFull, 4, (some .boolean), 3, false, _, _, _, _)) rfl (Nat.le_of_ble_eq_true rfl)
set_option maxRecDepth 100000 in
theorem Xe_X12_nameOf (d : Nat) (a0 : Nat) (x0 : Int32) (x1 : Int64) (h : Hp) : X (d + 1) 153 [.ref a0, .int x0, .long x1] h = Rn (X d) 12 (some .int) false 5 cX12_nameOf (0, [(0, .ref a0), (1, .int x0), (2, .long x1)], [], h) := X_in (e := (yX12_nameOf, 12, cX12_nameOf, 5, (some .int), 2, false, _, _, _, _)) rfl (Nat.le_of_ble_eq_true rfl)
set_option maxRecDepth 100000 in
theorem Xe_X12_newName (d : Nat) (a0 : Nat) (h : Hp) : X (d + 1) 154 [.ref a0] h = Rn (X d) 12 (some .long) false 4 cX12_newName (0, [(0, .ref a0)], [], h) := X_in (e := (yX12_newName, 12, cX12_newName, 4, (some .long), 0, false, _, _, _, _)) rfl (Nat.le_of_ble_eq_true rfl)
set_option maxRecDepth 100000 in
theorem Xe_X12_oneOf (d : Nat) (a0 : Nat) (x0 : Int32) (h : Hp) : X (d + 1) 155 [.ref a0, .int x0] h = Rn (X d) 12 (some .int) false 5 cX12_oneOf (0, [(0, .ref a0), (1, .int x0)], [], h) := X_in (e := (yX12_oneOf, 12, cX12_oneOf, 5, (some .int), 1, false, _, _, _, _)) rfl (Nat.le_of_ble_eq_true rfl)
set_option maxRecDepth 100000 in
theorem Xe_X12_isNamed (d : Nat) (a0 : Nat) (x0 : Int32) (x1 : Int64) (h : Hp) : X (d + 1) 156 [.ref a0, .int x0, .long x1] h = Rn (X d) 12 (none) false 4 cX12_isNamed (0, [(0, .ref a0), (1, .int x0), (2, .long x1)], [], h) := X_in (e := (yX12_isNamed, 12, cX12_isNamed, 4, (none), 2, false, _, _, _, _)) rfl (Nat.le_of_ble_eq_true rfl)
set_option maxRecDepth 100000 in
theorem Xe_X12_moodTold (d : Nat) (a0 : Nat) (x0 : Int32) (h : Hp) : X (d + 1) 157 [.ref a0, .int x0] h = Rn (X d) 12 (none) false 2 cX12_moodTold (0, [(0, .ref a0), (1, .int x0)], [], h) := X_in (e := (yX12_moodTold, 12, cX12_moodTold, 2, (none), 1, false, _, _, _, _)) rfl (Nat.le_of_ble_eq_true rfl)
set_option maxRecDepth 100000 in
theorem Xe_X12_personTold (d : Nat) (a0 : Nat) (x0 : Int32) (h : Hp) : X (d + 1) 158 [.ref a0, .int x0] h = Rn (X d) 12 (none) false 5 cX12_personTold (0, [(0, .ref a0), (1, .int x0)], [], h) := X_in (e := (yX12_personTold, 12, cX12_personTold, 5, (none), 1, false, _, _, _, _)) rfl (Nat.le_of_ble_eq_true rfl)
set_option maxRecDepth 100000 in
theorem Xe_X12_kneaderTold (d : Nat) (a0 : Nat) (x0 : Int32) (h : Hp) : X (d + 1) 159 [.ref a0, .int x0] h = Rn (X d) 12 (none) false 3 cX12_kneaderTold (0, [(0, .ref a0), (1, .int x0)], [], h) := X_in (e := (yX12_kneaderTold, 12, cX12_kneaderTold, 3, (none), 1, false, _, _, _, _)) rfl (Nat.le_of_ble_eq_true rfl)
set_option maxRecDepth 100000 in
theorem Xe_X12_loafTold (d : Nat) (a0 : Nat) (x0 : Int32) (h : Hp) : X (d + 1) 160 [.ref a0, .int x0] h = Rn (X d) 12 (none) false 5 cX12_loafTold (0, [(0, .ref a0), (1, .int x0)], [], h) := X_in (e := (yX12_loafTold, 12, cX12_loafTold, 5, (none), 1, false, _, _, _, _)) rfl (Nat.le_of_ble_eq_true rfl)
set_option maxRecDepth 100000 in
theorem Xe_X12_mealTold (d : Nat) (a0 : Nat) (x0 : Int32) (h : Hp) : X (d + 1) 161 [.ref a0, .int x0] h = Rn (X d) 12 (none) false 6 cX12_mealTold (0, [(0, .ref a0), (1, .int x0)], [], h) := X_in (e := (yX12_mealTold, 12, cX12_mealTold, 6, (none), 1, false, _, _, _, _)) rfl (Nat.le_of_ble_eq_true rfl)
set_option maxRecDepth 100000 in
theorem Xe_X12_keepsCodes (d : Nat) (a0 : Nat) (x0 : Int32) (h : Hp) : X (d + 1) 162 [.ref a0, .int x0] h = Rn (X d) 12 (none) false 3 cX12_keepsCodes (0, [(0, .ref a0), (1, .int x0)], [], h) := X_in (e := (yX12_keepsCodes, 12, cX12_keepsCodes, 3, (none), 1, false, _, _, _, _)) rfl (Nat.le_of_ble_eq_true rfl)
set_option maxRecDepth 100000 in
theorem Xe_X12_begins (d : Nat) (a0 : Nat) (x0 : Int32) (h : Hp) : X (d + 1) 163 [.ref a0, .int x0] h = Rn (X d) 12 (none) false 2 cX12_begins (0, [(0, .ref a0), (1, .int x0)], [], h) := X_in (e := (yX12_begins, 12, cX12_begins, 2, (none), 1, false, _, _, _, _)) rfl (Nat.le_of_ble_eq_true rfl)
set_option maxRecDepth 100000 in
theorem Xe_X12_sumIsTold (d : Nat) (a0 : Nat) (x0 : Int32) (x1 : Int32) (h : Hp) : X (d + 1) 164 [.ref a0, .int x0, .int x1] h = Rn (X d) 12 (none) false 3 cX12_sumIsTold (0, [(0, .ref a0), (1, .int x0), (2, .int x1)], [], h) := X_in (e := (yX12_sumIsTold, 12, cX12_sumIsTold, 3, (none), 2, false, _, _, _, _)) rfl (Nat.le_of_ble_eq_true rfl)
set_option maxRecDepth 100000 in
theorem Xe_X12_deedTold (d : Nat) (a0 : Nat) (x0 : Int32) (h : Hp) : X (d + 1) 165 [.ref a0, .int x0] h = Rn (X d) 12 (none) false 4 cX12_deedTold (0, [(0, .ref a0), (1, .int x0)], [], h) := X_in (e := (yX12_deedTold, 12, cX12_deedTold, 4, (none), 1, false, _, _, _, _)) rfl (Nat.le_of_ble_eq_true rfl)
set_option maxRecDepth 100000 in
theorem Xe_X12_statementTold (d : Nat) (a0 : Nat) (h : Hp) : X (d + 1) 166 [.ref a0] h = Rn (X d) 12 (none) false 2 cX12_statementTold (0, [(0, .ref a0)], [], h) := X_in (e := (yX12_statementTold, 12, cX12_statementTold, 2, (none), 0, false, _, _, _, _)) rfl (Nat.le_of_ble_eq_true rfl)
set_option maxRecDepth 100000 in
theorem Xe_X12_town (d : Nat) (a0 : Nat) (h : Hp) : X (d + 1) 167 [.ref a0] h = Rn (X d) 12 (some .int) false 2 cX12_town (0, [(0, .ref a0)], [], h) := X_in (e := (yX12_town, 12, cX12_town, 2, (some .int), 0, false, _, _, _, _)) rfl (Nat.le_of_ble_eq_true rfl)
set_option maxRecDepth 100000 in
theorem Xe_X12_stands (d : Nat) (a0 : Nat) (h : Hp) : X (d + 1) 168 [.ref a0] h = Rn (X d) 12 (none) false 3 cX12_stands (0, [(0, .ref a0)], [], h) := X_in (e := (yX12_stands, 12, cX12_stands, 3, (none), 0, false, _, _, _, _)) rfl (Nat.le_of_ble_eq_true rfl)
set_option maxRecDepth 100000 in
theorem Xe_X12_fault (d : Nat) (a0 : Nat) (x0 : Int32) (h : Hp) : X (d + 1) 169 [.ref a0, .int x0] h = Rn (X d) 12 (some .int) false 2 cX12_fault (0, [(0, .ref a0), (1, .int x0)], [], h) := X_in (e := (yX12_fault, 12, cX12_fault, 2, (some .int), 1, false, _, _, _, _)) rfl (Nat.le_of_ble_eq_true rfl)
set_option maxRecDepth 100000 in
theorem Xe_X12_hourNow (d : Nat) (a0 : Nat) (h : Hp) : X (d + 1) 170 [.ref a0] h = Rn (X d) 12 (some .int) false 1 cX12_hourNow (0, [(0, .ref a0)], [], h) := X_in (e := (yX12_hourNow, 12, cX12_hourNow, 1, (some .int), 0, false, _, _, _, _)) rfl (Nat.le_of_ble_eq_true rfl)
set_option maxRecDepth 100000 in
theorem Xe_X12_moodMany (d : Nat) (a0 : Nat) (h : Hp) : X (d + 1) 171 [.ref a0] h = Rn (X d) 12 (some .int) false 1 cX12_moodMany (0, [(0, .ref a0)], [], h) := X_in (e := (yX12_moodMany, 12, cX12_moodMany, 1, (some .int), 0, false, _, _, _, _)) rfl (Nat.le_of_ble_eq_true rfl)
set_option maxRecDepth 100000 in
theorem Xe_X12_peopleMany (d : Nat) (a0 : Nat) (h : Hp) : X (d + 1) 172 [.ref a0] h = Rn (X d) 12 (some .int) false 1 cX12_peopleMany (0, [(0, .ref a0)], [], h) := X_in (e := (yX12_peopleMany, 12, cX12_peopleMany, 1, (some .int), 0, false, _, _, _, _)) rfl (Nat.le_of_ble_eq_true rfl)
set_option maxRecDepth 100000 in
theorem Xe_X12_loafMany (d : Nat) (a0 : Nat) (h : Hp) : X (d + 1) 173 [.ref a0] h = Rn (X d) 12 (some .int) false 1 cX12_loafMany (0, [(0, .ref a0)], [], h) := X_in (e := (yX12_loafMany, 12, cX12_loafMany, 1, (some .int), 0, false, _, _, _, _)) rfl (Nat.le_of_ble_eq_true rfl)
set_option maxRecDepth 100000 in
theorem Xe_X12_deedMany (d : Nat) (a0 : Nat) (h : Hp) : X (d + 1) 174 [.ref a0] h = Rn (X d) 12 (some .int) false 1 cX12_deedMany (0, [(0, .ref a0)], [], h) := X_in (e := (yX12_deedMany, 12, cX12_deedMany, 1, (some .int), 0, false, _, _, _, _)) rfl (Nat.le_of_ble_eq_true rfl)
set_option maxRecDepth 100000 in
theorem Xe_X12_isMood (d : Nat) (a0 : Nat) (x0 : Int32) (h : Hp) : X (d + 1) 175 [.ref a0, .int x0] h = Rn (X d) 12 (some .boolean) false 2 cX12_isMood (0, [(0, .ref a0), (1, .int x0)], [], h) := X_in (e := (yX12_isMood, 12, cX12_isMood, 2, (some .boolean), 1, false, _, _, _, _)) rfl (Nat.le_of_ble_eq_true rfl)
set_option maxRecDepth 100000 in
theorem Xe_X12_isPerson (d : Nat) (a0 : Nat) (x0 : Int32) (h : Hp) : X (d + 1) 176 [.ref a0, .int x0] h = Rn (X d) 12 (some .boolean) false 2 cX12_isPerson (0, [(0, .ref a0), (1, .int x0)], [], h) := X_in (e := (yX12_isPerson, 12, cX12_isPerson, 2, (some .boolean), 1, false, _, _, _, _)) rfl (Nat.le_of_ble_eq_true rfl)
set_option maxRecDepth 100000 in
theorem Xe_X12_isLoaf (d : Nat) (a0 : Nat) (x0 : Int32) (h : Hp) : X (d + 1) 177 [.ref a0, .int x0] h = Rn (X d) 12 (some .boolean) false 2 cX12_isLoaf (0, [(0, .ref a0), (1, .int x0)], [], h) := X_in (e := (yX12_isLoaf, 12, cX12_isLoaf, 2, (some .boolean), 1, false, _, _, _, _)) rfl (Nat.le_of_ble_eq_true rfl)
set_option maxRecDepth 100000 in
theorem Xe_X12_isDeed (d : Nat) (a0 : Nat) (x0 : Int32) (h : Hp) : X (d + 1) 178 [.ref a0, .int x0] h = Rn (X d) 12 (some .boolean) false 2 cX12_isDeed (0, [(0, .ref a0), (1, .int x0)], [], h) := X_in (e := (yX12_isDeed, 12, cX12_isDeed, 2, (some .boolean), 1, false, _, _, _, _)) rfl (Nat.le_of_ble_eq_true rfl)
set_option maxRecDepth 100000 in
theorem Xe_X12_natureOf (d : Nat) (a0 : Nat) (x0 : Int32) (x1 : Int32) (h : Hp) : X (d + 1) 179 [.ref a0, .int x0, .int x1] h = Rn (X d) 12 (some .int) false 3 cX12_natureOf (0, [(0, .ref a0), (1, .int x0), (2, .int x1)], [], h) := X_in (e := (yX12_natureOf, 12, cX12_natureOf, 3, (some .int), 2, false, _, _, _, _)) rfl (Nat.le_of_ble_eq_true rfl)
set_option maxRecDepth 100000 in
theorem Xe_X12_nowOf (d : Nat) (a0 : Nat) (x0 : Int32) (x1 : Int32) (h : Hp) : X (d + 1) 180 [.ref a0, .int x0, .int x1] h = Rn (X d) 12 (some .int) false 3 cX12_nowOf (0, [(0, .ref a0), (1, .int x0), (2, .int x1)], [], h) := X_in (e := (yX12_nowOf, 12, cX12_nowOf, 3, (some .int), 2, false, _, _, _, _)) rfl (Nat.le_of_ble_eq_true rfl)
set_option maxRecDepth 100000 in
theorem Xe_X12_whoKnead (d : Nat) (a0 : Nat) (x0 : Int32) (h : Hp) : X (d + 1) 181 [.ref a0, .int x0] h = Rn (X d) 12 (some .int) false 2 cX12_whoKnead (0, [(0, .ref a0), (1, .int x0)], [], h) := X_in (e := (yX12_whoKnead, 12, cX12_whoKnead, 2, (some .int), 1, false, _, _, _, _)) rfl (Nat.le_of_ble_eq_true rfl)
set_option maxRecDepth 100000 in
theorem Xe_X12_loafIs (d : Nat) (a0 : Nat) (x0 : Int32) (x1 : Int32) (h : Hp) : X (d + 1) 182 [.ref a0, .int x0, .int x1] h = Rn (X d) 12 (some .int) false 3 cX12_loafIs (0, [(0, .ref a0), (1, .int x0), (2, .int x1)], [], h) := X_in (e := (yX12_loafIs, 12, cX12_loafIs, 3, (some .int), 2, false, _, _, _, _)) rfl (Nat.le_of_ble_eq_true rfl)
set_option maxRecDepth 100000 in
theorem Xe_X12_leavenOf (d : Nat) (a0 : Nat) (x0 : Int32) (h : Hp) : X (d + 1) 183 [.ref a0, .int x0] h = Rn (X d) 12 (some .int) false 2 cX12_leavenOf (0, [(0, .ref a0), (1, .int x0)], [], h) := X_in (e := (yX12_leavenOf, 12, cX12_leavenOf, 2, (some .int), 1, false, _, _, _, _)) rfl (Nat.le_of_ble_eq_true rfl)
set_option maxRecDepth 100000 in
theorem Xe_X12_putsAside (d : Nat) (a0 : Nat) (h : Hp) : X (d + 1) 184 [.ref a0] h = Rn (X d) 12 (none) false 2 cX12_putsAside (0, [(0, .ref a0)], [], h) := X_in (e := (yX12_putsAside, 12, cX12_putsAside, 2, (none), 0, false, _, _, _, _)) rfl (Nat.le_of_ble_eq_true rfl)
set_option maxRecDepth 100000 in
theorem Xe_X12_takesBack (d : Nat) (a0 : Nat) (h : Hp) : X (d + 1) 185 [.ref a0] h = Rn (X d) 12 (none) false 2 cX12_takesBack (0, [(0, .ref a0)], [], h) := X_in (e := (yX12_takesBack, 12, cX12_takesBack, 2, (none), 0, false, _, _, _, _)) rfl (Nat.le_of_ble_eq_true rfl)
set_option maxRecDepth 100000 in
theorem Xe_X12_bits (d : Nat) (x0 : Int32) (h : Hp) : X (d + 1) 186 [.int x0] h = Rn (X d) 12 (some .int) false 3 cX12_bits (0, [(0, .int x0)], [], h) := X_in (e := (yX12_bits, 12, cX12_bits, 3, (some .int), 1, false, _, _, _, _)) rfl (Nat.le_of_ble_eq_true rfl)
set_option maxRecDepth 100000 in
theorem Xe_X12_codesTell (d : Nat) (a0 : Nat) (x0 : Int32) (h : Hp) : X (d + 1) 187 [.ref a0, .int x0] h = Rn (X d) 12 (some .long) false 4 cX12_codesTell (0, [(0, .ref a0), (1, .int x0)], [], h) := X_in (e := (yX12_codesTell, 12, cX12_codesTell, 4, (some .long), 1, false, _, _, _, _)) rfl (Nat.le_of_ble_eq_true rfl)
set_option maxRecDepth 100000 in
theorem Xe_X12_made (d : Nat) (a0 : Nat) (x0 : Int32) (x1 : Int32) (x2 : Int32) (x3 : Int32) (x4 : Int32) (h : Hp) : X (d + 1) 188 [.ref a0, .int x0, .int x1, .int x2, .int x3, .int x4] h = Rn (X d) 12 (some .int) false 8 cX12_made (0, [(0, .ref a0), (1, .int x0), (2, .int x1), (3, .int x2), (4, .int x3), (5, .int x4)], [], h) := X_in (e := (yX12_made, 12, cX12_made, 8, (some .int), 5, false, _, _, _, _)) rfl (Nat.le_of_ble_eq_true rfl)
set_option maxRecDepth 100000 in
theorem Xe_X12_isDone (d : Nat) (a0 : Nat) (x0 : Int32) (x1 : Int32) (h : Hp) : X (d + 1) 189 [.ref a0, .int x0, .int x1] h = Rn (X d) 12 (some .boolean) false 3 cX12_isDone (0, [(0, .ref a0), (1, .int x0), (2, .int x1)], [], h) := X_in (e := (yX12_isDone, 12, cX12_isDone, 3, (some .boolean), 2, false, _, _, _, _)) rfl (Nat.le_of_ble_eq_true rfl)
set_option maxRecDepth 100000 in
theorem Xe_X12_doneBy (d : Nat) (a0 : Nat) (x0 : Int32) (h : Hp) : X (d + 1) 190 [.ref a0, .int x0] h = Rn (X d) 12 (some .int) false 4 cX12_doneBy (0, [(0, .ref a0), (1, .int x0)], [], h) := X_in (e := (yX12_doneBy, 12, cX12_doneBy, 4, (some .int), 1, false, _, _, _, _)) rfl (Nat.le_of_ble_eq_true rfl)
set_option maxRecDepth 100000 in
theorem Xe_X12_bakes (d : Nat) (a0 : Nat) (x0 : Int32) (h : Hp) : X (d + 1) 191 [.ref a0, .int x0] h = Rn (X d) 12 (none) false 7 cX12_bakes (0, [(0, .ref a0), (1, .int x0)], [], h) := X_in (e := (yX12_bakes, 12, cX12_bakes, 7, (none), 1, false, _, _, _, _)) rfl (Nat.le_of_ble_eq_true rfl)
set_option maxRecDepth 100000 in
theorem Xe_X12_eats (d : Nat) (a0 : Nat) (x0 : Int32) (x1 : Int32) (h : Hp) : X (d + 1) 192 [.ref a0, .int x0, .int x1] h = Rn (X d) 12 (none) false 4 cX12_eats (0, [(0, .ref a0), (1, .int x0), (2, .int x1)], [], h) := X_in (e := (yX12_eats, 12, cX12_eats, 4, (none), 2, false, _, _, _, _)) rfl (Nat.le_of_ble_eq_true rfl)
set_option maxRecDepth 100000 in
theorem Xe_X12_sleeps (d : Nat) (a0 : Nat) (x0 : Int32) (h : Hp) : X (d + 1) 193 [.ref a0, .int x0] h = Rn (X d) 12 (none) false 3 cX12_sleeps (0, [(0, .ref a0), (1, .int x0)], [], h) := X_in (e := (yX12_sleeps, 12, cX12_sleeps, 3, (none), 1, false, _, _, _, _)) rfl (Nat.le_of_ble_eq_true rfl)
set_option maxRecDepth 100000 in
theorem Xe_X12_hourComes (d : Nat) (a0 : Nat) (h : Hp) : X (d + 1) 194 [.ref a0] h = Rn (X d) 12 (none) false 3 cX12_hourComes (0, [(0, .ref a0)], [], h) := X_in (e := (yX12_hourComes, 12, cX12_hourComes, 3, (none), 0, false, _, _, _, _)) rfl (Nat.le_of_ble_eq_true rfl)
set_option maxRecDepth 100000 in
theorem Xe_X12_hoursCome (d : Nat) (a0 : Nat) (x0 : Int32) (h : Hp) : X (d + 1) 195 [.ref a0, .int x0] h = Rn (X d) 12 (none) false 3 cX12_hoursCome (0, [(0, .ref a0), (1, .int x0)], [], h) := X_in (e := (yX12_hoursCome, 12, cX12_hoursCome, 3, (none), 1, false, _, _, _, _)) rfl (Nat.le_of_ble_eq_true rfl)
set_option maxRecDepth 100000 in
theorem Xe_X12_deedsNow (d : Nat) (a0 : Nat) (h : Hp) : X (d + 1) 196 [.ref a0] h = Rn (X d) 12 (some .int) false 3 cX12_deedsNow (0, [(0, .ref a0)], [], h) := X_in (e := (yX12_deedsNow, 12, cX12_deedsNow, 3, (some .int), 0, false, _, _, _, _)) rfl (Nat.le_of_ble_eq_true rfl)
set_option maxRecDepth 100000 in
theorem Xe_X12_has (d : Nat) (a0 : Nat) (x0 : Int32) (h : Hp) : X (d + 1) 197 [.ref a0, .int x0] h = Rn (X d) 12 (some .int) false 2 cX12_has (0, [(0, .ref a0), (1, .int x0)], [], h) := X_in (e := (yX12_has, 12, cX12_has, 2, (some .int), 1, false, _, _, _, _)) rfl (Nat.le_of_ble_eq_true rfl)
set_option maxRecDepth 100000 in
theorem Xe_X12_letter (d : Nat) (a0 : Nat) (x0 : Int32) (x1 : Int32) (x2 : Int32) (h : Hp) : X (d + 1) 198 [.ref a0, .int x0, .int x1, .int x2] h = Rn (X d) 12 (some .int) false 9 cX12_letter (0, [(0, .ref a0), (1, .int x0), (2, .int x1), (3, .int x2)], [], h) := X_in (e := (yX12_letter, 12, cX12_letter, 9, (some .int), 3, false, _, _, _, _)) rfl (Nat.le_of_ble_eq_true rfl)
set_option maxRecDepth 100000 in
theorem Xe_X12_feels (d : Nat) (a0 : Nat) (x0 : Int32) (x1 : Int32) (x2 : Int32) (h : Hp) : X (d + 1) 199 [.ref a0, .int x0, .int x1, .int x2] h = Rn (X d) 12 (some .int) false 4 cX12_feels (0, [(0, .ref a0), (1, .int x0), (2, .int x1), (3, .int x2)], [], h) := X_in (e := (yX12_feels, 12, cX12_feels, 4, (some .int), 3, false, _, _, _, _)) rfl (Nat.le_of_ble_eq_true rfl)
set_option maxRecDepth 100000 in
theorem Xe_X12_bread (d : Nat) (a0 : Nat) (x0 : Int32) (x1 : Int32) (h : Hp) : X (d + 1) 200 [.ref a0, .int x0, .int x1] h = Rn (X d) 12 (some .int) false 3 cX12_bread (0, [(0, .ref a0), (1, .int x0), (2, .int x1)], [], h) := X_in (e := (yX12_bread, 12, cX12_bread, 3, (some .int), 2, false, _, _, _, _)) rfl (Nat.le_of_ble_eq_true rfl)
set_option maxRecDepth 100000 in
theorem Xe_X12_mealsOf (d : Nat) (a0 : Nat) (x0 : Int32) (h : Hp) : X (d + 1) 201 [.ref a0, .int x0] h = Rn (X d) 12 (some .int) false 4 cX12_mealsOf (0, [(0, .ref a0), (1, .int x0)], [], h) := X_in (e := (yX12_mealsOf, 12, cX12_mealsOf, 4, (some .int), 1, false, _, _, _, _)) rfl (Nat.le_of_ble_eq_true rfl)
set_option maxRecDepth 100000 in
theorem Xe_X12_loaf (d : Nat) (a0 : Nat) (x0 : Int32) (x1 : Int32) (h : Hp) : X (d + 1) 202 [.ref a0, .int x0, .int x1] h = Rn (X d) 12 (some .int) false 3 cX12_loaf (0, [(0, .ref a0), (1, .int x0), (2, .int x1)], [], h) := X_in (e := (yX12_loaf, 12, cX12_loaf, 3, (some .int), 2, false, _, _, _, _)) rfl (Nat.le_of_ble_eq_true rfl)
set_option maxRecDepth 100000 in
theorem Xe_X12_does (d : Nat) (a0 : Nat) (x0 : Int32) (x1 : Int32) (h : Hp) : X (d + 1) 203 [.ref a0, .int x0, .int x1] h = Rn (X d) 12 (some .int) false 3 cX12_does (0, [(0, .ref a0), (1, .int x0), (2, .int x1)], [], h) := X_in (e := (yX12_does, 12, cX12_does, 3, (some .int), 2, false, _, _, _, _)) rfl (Nat.le_of_ble_eq_true rfl)
set_option maxRecDepth 100000 in
theorem Xe_X12_isAhead (d : Nat) (a0 : Nat) (x0 : Int32) (h : Hp) : X (d + 1) 204 [.ref a0, .int x0] h = Rn (X d) 12 (some .boolean) false 2 cX12_isAhead (0, [(0, .ref a0), (1, .int x0)], [], h) := X_in (e := (yX12_isAhead, 12, cX12_isAhead, 2, (some .boolean), 1, false, _, _, _, _)) rfl (Nat.le_of_ble_eq_true rfl)
set_option maxRecDepth 100000 in
theorem Xe_X12_later (d : Nat) (a0 : Nat) (x0 : Int32) (x1 : Int32) (x2 : Int32) (h : Hp) : X (d + 1) 205 [.ref a0, .int x0, .int x1, .int x2] h = Rn (X d) 12 (some .int) false 5 cX12_later (0, [(0, .ref a0), (1, .int x0), (2, .int x1), (3, .int x2)], [], h) := X_in (e := (yX12_later, 12, cX12_later, 5, (some .int), 3, false, _, _, _, _)) rfl (Nat.le_of_ble_eq_true rfl)
set_option maxRecDepth 100000 in
theorem Xe_X12_firstDoer (d : Nat) (a0 : Nat) (h : Hp) : X (d + 1) 206 [.ref a0] h = Rn (X d) 12 (some .int) false 3 cX12_firstDoer (0, [(0, .ref a0)], [], h) := X_in (e := (yX12_firstDoer, 12, cX12_firstDoer, 3, (some .int), 0, false, _, _, _, _)) rfl (Nat.le_of_ble_eq_true rfl)
set_option maxRecDepth 100000 in
theorem Xe_X12_first (d : Nat) (a0 : Nat) (x0 : Int32) (h : Hp) : X (d + 1) 207 [.ref a0, .int x0] h = Rn (X d) 12 (some .int) false 4 cX12_first (0, [(0, .ref a0), (1, .int x0)], [], h) := X_in (e := (yX12_first, 12, cX12_first, 4, (some .int), 1, false, _, _, _, _)) rfl (Nat.le_of_ble_eq_true rfl)
set_option maxRecDepth 100000 in
theorem Xe_X12_often (d : Nat) (a0 : Nat) (x0 : Int32) (x1 : Int32) (x2 : Int32) (h : Hp) : X (d + 1) 208 [.ref a0, .int x0, .int x1, .int x2] h = Rn (X d) 12 (some .int) false 6 cX12_often (0, [(0, .ref a0), (1, .int x0), (2, .int x1), (3, .int x2)], [], h) := X_in (e := (yX12_often, 12, cX12_often, 6, (some .int), 3, false, _, _, _, _)) rfl (Nat.le_of_ble_eq_true rfl)
set_option maxRecDepth 100000 in
theorem Xe_X12_areAlike (d : Nat) (a0 : Nat) (x0 : Int32) (x1 : Int32) (h : Hp) : X (d + 1) 209 [.ref a0, .int x0, .int x1] h = Rn (X d) 12 (some .boolean) false 4 cX12_areAlike (0, [(0, .ref a0), (1, .int x0), (2, .int x1)], [], h) := X_in (e := (yX12_areAlike, 12, cX12_areAlike, 4, (some .boolean), 2, false, _, _, _, _)) rfl (Nat.le_of_ble_eq_true rfl)
set_option maxRecDepth 100000 in
theorem Xe_X12_again (d : Nat) (a0 : Nat) (x0 : Int32) (h : Hp) : X (d + 1) 210 [.ref a0, .int x0] h = Rn (X d) 12 (some .int) false 6 cX12_again (0, [(0, .ref a0), (1, .int x0)], [], h) := X_in (e := (yX12_again, 12, cX12_again, 6, (some .int), 1, false, _, _, _, _)) rfl (Nat.le_of_ble_eq_true rfl)
set_option maxRecDepth 100000 in
theorem Xe_X12_isHands (d : Nat) (a0 : Nat) (x0 : Int32) (h : Hp) : X (d + 1) 211 [.ref a0, .int x0] h = Rn (X d) 12 (some .boolean) false 2 cX12_isHands (0, [(0, .ref a0), (1, .int x0)], [], h) := X_in (e := (yX12_isHands, 12, cX12_isHands, 2, (some .boolean), 1, false, _, _, _, _)) rfl (Nat.le_of_ble_eq_true rfl)
set_option maxRecDepth 100000 in
theorem Xe_X12_size (d : Nat) (x0 : Int32) (h : Hp) : X (d + 1) 212 [.int x0] h = Rn (X d) 12 (some .int) false 1 cX12_size (0, [(0, .int x0)], [], h) := X_in (e := (yX12_size, 12, cX12_size, 1, (some .int), 1, false, _, _, _, _)) rfl (Nat.le_of_ble_eq_true rfl)
set_option maxRecDepth 100000 in
theorem Xe_X12_least (d : Nat) (x0 : Int32) (x1 : Int32) (h : Hp) : X (d + 1) 213 [.int x0, .int x1] h = Rn (X d) 12 (some .int) false 2 cX12_least (0, [(0, .int x0), (1, .int x1)], [], h) := X_in (e := (yX12_least, 12, cX12_least, 2, (some .int), 2, false, _, _, _, _)) rfl (Nat.le_of_ble_eq_true rfl)
set_option maxRecDepth 100000 in
theorem Xe_X12_laterBy (d : Nat) (a0 : Nat) (x0 : Int32) (x1 : Int32) (x2 : Int32) (x3 : Int32) (x4 : Int32) (h : Hp) : X (d + 1) 214 [.ref a0, .int x0, .int x1, .int x2, .int x3, .int x4] h = Rn (X d) 12 (some .int) false 7 cX12_laterBy (0, [(0, .ref a0), (1, .int x0), (2, .int x1), (3, .int x2), (4, .int x3), (5, .int x4)], [], h) := X_in (e := (yX12_laterBy, 12, cX12_laterBy, 7, (some .int), 5, false, _, _, _, _)) rfl (Nat.le_of_ble_eq_true rfl)
set_option maxRecDepth 100000 in
theorem Xe_X12_hands (d : Nat) (a0 : Nat) (x0 : Int32) (x1 : Int32) (x2 : Int32) (x3 : Int32) (x4 : Int32) (x5 : Int32) (h : Hp) : X (d + 1) 215 [.ref a0, .int x0, .int x1, .int x2, .int x3, .int x4, .int x5] h = Rn (X d) 12 (some .int) false 12 cX12_hands (0, [(0, .ref a0), (1, .int x0), (2, .int x1), (3, .int x2), (4, .int x3), (5, .int x4), (6, .int x5)], [], h) := X_in (e := (yX12_hands, 12, cX12_hands, 12, (some .int), 6, false, _, _, _, _)) rfl (Nat.le_of_ble_eq_true rfl)
set_option maxRecDepth 100000 in
theorem Xe_X12_blend (d : Nat) (a0 : Nat) (x0 : Int32) (x1 : Int32) (x2 : Int32) (x3 : Int32) (x4 : Int32) (h : Hp) : X (d + 1) 216 [.ref a0, .int x0, .int x1, .int x2, .int x3, .int x4] h = Rn (X d) 12 (some .int) false 14 cX12_blend (0, [(0, .ref a0), (1, .int x0), (2, .int x1), (3, .int x2), (4, .int x3), (5, .int x4)], [], h) := X_in (e := (yX12_blend, 12, cX12_blend, 14, (some .int), 5, false, _, _, _, _)) rfl (Nat.le_of_ble_eq_true rfl)
set_option maxRecDepth 100000 in
theorem Xe_X12_left (d : Nat) (a0 : Nat) (x0 : Int32) (x1 : Int32) (x2 : Int32) (h : Hp) : X (d + 1) 217 [.ref a0, .int x0, .int x1, .int x2] h = Rn (X d) 12 (some .int) false 9 cX12_left (0, [(0, .ref a0), (1, .int x0), (2, .int x1), (3, .int x2)], [], h) := X_in (e := (yX12_left, 12, cX12_left, 9, (some .int), 3, false, _, _, _, _)) rfl (Nat.le_of_ble_eq_true rfl)
set_option maxRecDepth 100000 in
theorem Xe_X12_farFrom (d : Nat) (a0 : Nat) (x0 : Int32) (x1 : Int32) (h : Hp) : X (d + 1) 218 [.ref a0, .int x0, .int x1] h = Rn (X d) 12 (some .int) false 5 cX12_farFrom (0, [(0, .ref a0), (1, .int x0), (2, .int x1)], [], h) := X_in (e := (yX12_farFrom, 12, cX12_farFrom, 5, (some .int), 2, false, _, _, _, _)) rfl (Nat.le_of_ble_eq_true rfl)
set_option maxRecDepth 100000 in
theorem Xe_X12_votes (d : Nat) (a0 : Nat) (x0 : Int32) (x1 : Int32) (x2 : Int32) (h : Hp) : X (d + 1) 219 [.ref a0, .int x0, .int x1, .int x2] h = Rn (X d) 12 (some .int) false 7 cX12_votes (0, [(0, .ref a0), (1, .int x0), (2, .int x1), (3, .int x2)], [], h) := X_in (e := (yX12_votes, 12, cX12_votes, 7, (some .int), 3, false, _, _, _, _)) rfl (Nat.le_of_ble_eq_true rfl)
set_option maxRecDepth 100000 in
theorem Xe_X12_keeps (d : Nat) (a0 : Nat) (h : Hp) : X (d + 1) 220 [.ref a0] h = Rn (X d) 12 (none) false 2 cX12_keeps (0, [(0, .ref a0)], [], h) := X_in (e := (yX12_keeps, 12, cX12_keeps, 2, (none), 0, false, _, _, _, _)) rfl (Nat.le_of_ble_eq_true rfl)
set_option maxRecDepth 100000 in
theorem Xe_X12_undo (d : Nat) (a0 : Nat) (h : Hp) : X (d + 1) 221 [.ref a0] h = Rn (X d) 12 (some .boolean) false 2 cX12_undo (0, [(0, .ref a0)], [], h) := X_in (e := (yX12_undo, 12, cX12_undo, 2, (some .boolean), 0, false, _, _, _, _)) rfl (Nat.le_of_ble_eq_true rfl)
set_option maxRecDepth 100000 in
theorem Xe_X12_refuses (d : Nat) (a0 : Nat) (h : Hp) : X (d + 1) 222 [.ref a0] h = Rn (X d) 12 (some .int) false 1 cX12_refuses (0, [(0, .ref a0)], [], h) := X_in (e := (yX12_refuses, 12, cX12_refuses, 1, (some .int), 0, false, _, _, _, _)) rfl (Nat.le_of_ble_eq_true rfl)
set_option maxRecDepth 100000 in
theorem Xe_X12_go (d : Nat) (a0 : Nat) (x0 : Int32) (h : Hp) : X (d + 1) 223 [.ref a0, .int x0] h = Rn (X d) 12 (some .int) false 2 cX12_go (0, [(0, .ref a0), (1, .int x0)], [], h) := X_in (e := (yX12_go, 12, cX12_go, 2, (some .int), 1, false, _, _, _, _)) rfl (Nat.le_of_ble_eq_true rfl)
set_option maxRecDepth 100000 in
theorem Xe_X12_knead (d : Nat) (a0 : Nat) (x0 : Int32) (x1 : Int32) (h : Hp) : X (d + 1) 224 [.ref a0, .int x0, .int x1] h = Rn (X d) 12 (some .int) false 4 cX12_knead (0, [(0, .ref a0), (1, .int x0), (2, .int x1)], [], h) := X_in (e := (yX12_knead, 12, cX12_knead, 4, (some .int), 2, false, _, _, _, _)) rfl (Nat.le_of_ble_eq_true rfl)
set_option maxRecDepth 100000 in
theorem Xe_X12_calm (d : Nat) (a0 : Nat) (x0 : Int32) (x1 : Int32) (x2 : Int32) (h : Hp) : X (d + 1) 225 [.ref a0, .int x0, .int x1, .int x2] h = Rn (X d) 12 (some .int) false 5 cX12_calm (0, [(0, .ref a0), (1, .int x0), (2, .int x1), (3, .int x2)], [], h) := X_in (e := (yX12_calm, 12, cX12_calm, 5, (some .int), 3, false, _, _, _, _)) rfl (Nat.le_of_ble_eq_true rfl)
set_option maxRecDepth 100000 in
theorem Xe_X12_seed (d : Nat) (a0 : Nat) (x0 : Int32) (h : Hp) : X (d + 1) 226 [.ref a0, .int x0] h = Rn (X d) 12 (some .boolean) false 2 cX12_seed (0, [(0, .ref a0), (1, .int x0)], [], h) := X_in (e := (yX12_seed, 12, cX12_seed, 2, (some .boolean), 1, false, _, _, _, _)) rfl (Nat.le_of_ble_eq_true rfl)
set_option maxRecDepth 100000 in
theorem Xe_X12_drawOf (d : Nat) (a0 : Nat) (x0 : Int32) (h : Hp) : X (d + 1) 227 [.ref a0, .int x0] h = Rn (X d) 12 (some .int) false 2 cX12_drawOf (0, [(0, .ref a0), (1, .int x0)], [], h) := X_in (e := (yX12_drawOf, 12, cX12_drawOf, 2, (some .int), 1, false, _, _, _, _)) rfl (Nat.le_of_ble_eq_true rfl)
set_option maxRecDepth 100000 in
theorem Xe_X12_whim (d : Nat) (a0 : Nat) (h : Hp) : X (d + 1) 228 [.ref a0] h = Rn (X d) 12 (none) false 4 cX12_whim (0, [(0, .ref a0)], [], h) := X_in (e := (yX12_whim, 12, cX12_whim, 4, (none), 0, false, _, _, _, _)) rfl (Nat.le_of_ble_eq_true rfl)
set_option maxRecDepth 100000 in
theorem Xe_X12_days (d : Nat) (a0 : Nat) (x0 : Int32) (h : Hp) : X (d + 1) 229 [.ref a0, .int x0] h = Rn (X d) 12 (some .int) false 3 cX12_days (0, [(0, .ref a0), (1, .int x0)], [], h) := X_in (e := (yX12_days, 12, cX12_days, 3, (some .int), 1, false, _, _, _, _)) rfl (Nat.le_of_ble_eq_true rfl)
set_option maxRecDepth 100000 in
theorem Xe_X12_see (d : Nat) (a0 : Nat) (h : Hp) : X (d + 1) 230 [.ref a0] h = Rn (X d) 12 (some .int) false 4 cX12_see (0, [(0, .ref a0)], [], h) := X_in (e := (yX12_see, 12, cX12_see, 4, (some .int), 0, false, _, _, _, _)) rfl (Nat.le_of_ble_eq_true rfl)
set_option maxRecDepth 100000 in
theorem Xe_X12_isSeenAt (d : Nat) (a0 : Nat) (x0 : Int32) (h : Hp) : X (d + 1) 231 [.ref a0, .int x0] h = Rn (X d) 12 (some .boolean) false 3 cX12_isSeenAt (0, [(0, .ref a0), (1, .int x0)], [], h) := X_in (e := (yX12_isSeenAt, 12, cX12_isSeenAt, 3, (some .boolean), 1, false, _, _, _, _)) rfl (Nat.le_of_ble_eq_true rfl)
set_option maxRecDepth 100000 in
theorem Xe_X12_lastSeen (d : Nat) (a0 : Nat) (h : Hp) : X (d + 1) 232 [.ref a0] h = Rn (X d) 12 (some .int) false 3 cX12_lastSeen (0, [(0, .ref a0)], [], h) := X_in (e := (yX12_lastSeen, 12, cX12_lastSeen, 3, (some .int), 0, false, _, _, _, _)) rfl (Nat.le_of_ble_eq_true rfl)
set_option maxRecDepth 100000 in
theorem Xe_X12_isKneader (d : Nat) (a0 : Nat) (x0 : Int32) (x1 : Int32) (h : Hp) : X (d + 1) 233 [.ref a0, .int x0, .int x1] h = Rn (X d) 12 (some .boolean) false 5 cX12_isKneader (0, [(0, .ref a0), (1, .int x0), (2, .int x1)], [], h) := X_in (e := (yX12_isKneader, 12, cX12_isKneader, 5, (some .boolean), 2, false, _, _, _, _)) rfl (Nat.le_of_ble_eq_true rfl)
set_option maxRecDepth 100000 in
theorem Xe_X12_kneaders (d : Nat) (a0 : Nat) (x0 : Int32) (x1 : Int32) (h : Hp) : X (d + 1) 234 [.ref a0, .int x0, .int x1] h = Rn (X d) 12 (some .int) false 8 cX12_kneaders (0, [(0, .ref a0), (1, .int x0), (2, .int x1)], [], h) := X_in (e := (yX12_kneaders, 12, cX12_kneaders, 8, (some .int), 2, false, _, _, _, _)) rfl (Nat.le_of_ble_eq_true rfl)
set_option maxRecDepth 100000 in
theorem Xe_X12_crowd (d : Nat) (a0 : Nat) (x0 : Int32) (x1 : Int32) (h : Hp) : X (d + 1) 235 [.ref a0, .int x0, .int x1] h = Rn (X d) 12 (some .int) false 5 cX12_crowd (0, [(0, .ref a0), (1, .int x0), (2, .int x1)], [], h) := X_in (e := (yX12_crowd, 12, cX12_crowd, 5, (some .int), 2, false, _, _, _, _)) rfl (Nat.le_of_ble_eq_true rfl)
set_option maxRecDepth 100000 in
theorem Xe_X12_notes (d : Nat) (a0 : Nat) (x0 : Int32) (x1 : Int32) (x2 : Int32) (h : Hp) : X (d + 1) 236 [.ref a0, .int x0, .int x1, .int x2] h = Rn (X d) 12 (none) false 6 cX12_notes (0, [(0, .ref a0), (1, .int x0), (2, .int x1), (3, .int x2)], [], h) := X_in (e := (yX12_notes, 12, cX12_notes, 6, (none), 3, false, _, _, _, _)) rfl (Nat.le_of_ble_eq_true rfl)
set_option maxRecDepth 100000 in
theorem Xe_X12_look (d : Nat) (a0 : Nat) (x0 : Int32) (x1 : Int32) (x2 : Int32) (h : Hp) : X (d + 1) 237 [.ref a0, .int x0, .int x1, .int x2] h = Rn (X d) 12 (some .int) false 7 cX12_look (0, [(0, .ref a0), (1, .int x0), (2, .int x1), (3, .int x2)], [], h) := X_in (e := (yX12_look, 12, cX12_look, 7, (some .int), 3, false, _, _, _, _)) rfl (Nat.le_of_ble_eq_true rfl)
set_option maxRecDepth 100000 in
theorem Xe_X12_qCode (d : Nat) (a0 : Nat) (x0 : Int32) (h : Hp) : X (d + 1) 238 [.ref a0, .int x0] h = Rn (X d) 12 (none) false 2 cX12_qCode (0, [(0, .ref a0), (1, .int x0)], [], h) := X_in (e := (yX12_qCode, 12, cX12_qCode, 2, (none), 1, false, _, _, _, _)) rfl (Nat.le_of_ble_eq_true rfl)
set_option maxRecDepth 100000 in
theorem Xe_X12_qOpens (d : Nat) (a0 : Nat) (x0 : Int32) (x1 : Int32) (h : Hp) : X (d + 1) 239 [.ref a0, .int x0, .int x1] h = Rn (X d) 12 (none) false 3 cX12_qOpens (0, [(0, .ref a0), (1, .int x0), (2, .int x1)], [], h) := X_in (e := (yX12_qOpens, 12, cX12_qOpens, 3, (none), 2, false, _, _, _, _)) rfl (Nat.le_of_ble_eq_true rfl)
set_option maxRecDepth 100000 in
theorem Xe_X12_qIsOn (d : Nat) (a0 : Nat) (x0 : Int32) (h : Hp) : X (d + 1) 240 [.ref a0, .int x0] h = Rn (X d) 12 (some .boolean) false 2 cX12_qIsOn (0, [(0, .ref a0), (1, .int x0)], [], h) := X_in (e := (yX12_qIsOn, 12, cX12_qIsOn, 2, (some .boolean), 1, false, _, _, _, _)) rfl (Nat.le_of_ble_eq_true rfl)
set_option maxRecDepth 100000 in
theorem Xe_X12_qDrops (d : Nat) (a0 : Nat) (h : Hp) : X (d + 1) 241 [.ref a0] h = Rn (X d) 12 (none) false 1 cX12_qDrops (0, [(0, .ref a0)], [], h) := X_in (e := (yX12_qDrops, 12, cX12_qDrops, 1, (none), 0, false, _, _, _, _)) rfl (Nat.le_of_ble_eq_true rfl)
set_option maxRecDepth 100000 in
theorem Xe_X12_qIsBracket (d : Nat) (x0 : Int32) (h : Hp) : X (d + 1) 242 [.int x0] h = Rn (X d) 12 (some .boolean) false 1 cX12_qIsBracket (0, [(0, .int x0)], [], h) := X_in (e := (yX12_qIsBracket, 12, cX12_qIsBracket, 1, (some .boolean), 1, false, _, _, _, _)) rfl (Nat.le_of_ble_eq_true rfl)
set_option maxRecDepth 100000 in
theorem Xe_X12_qBracket (d : Nat) (a0 : Nat) (h : Hp) : X (d + 1) 243 [.ref a0] h = Rn (X d) 12 (some .int) false 2 cX12_qBracket (0, [(0, .ref a0)], [], h) := X_in (e := (yX12_qBracket, 12, cX12_qBracket, 2, (some .int), 0, false, _, _, _, _)) rfl (Nat.le_of_ble_eq_true rfl)
set_option maxRecDepth 100000 in
theorem Xe_X12_qDropsToBracket (d : Nat) (a0 : Nat) (h : Hp) : X (d + 1) 244 [.ref a0] h = Rn (X d) 12 (none) false 1 cX12_qDropsToBracket (0, [(0, .ref a0)], [], h) := X_in (e := (yX12_qDropsToBracket, 12, cX12_qDropsToBracket, 1, (none), 0, false, _, _, _, _)) rfl (Nat.le_of_ble_eq_true rfl)
set_option maxRecDepth 100000 in
theorem Xe_X12_qWordHere (d : Nat) (a0 : Nat) (h : Hp) : X (d + 1) 245 [.ref a0] h = Rn (X d) 12 (some .int) false 1 cX12_qWordHere (0, [(0, .ref a0)], [], h) := X_in (e := (yX12_qWordHere, 12, cX12_qWordHere, 1, (some .int), 0, false, _, _, _, _)) rfl (Nat.le_of_ble_eq_true rfl)
set_option maxRecDepth 100000 in
theorem Xe_X12_qWordOf (d : Nat) (a0 : Nat) (x0 : Int32) (x1 : Int32) (h : Hp) : X (d + 1) 246 [.ref a0, .int x0, .int x1] h = Rn (X d) 12 (some .int) false 4 cX12_qWordOf (0, [(0, .ref a0), (1, .int x0), (2, .int x1)], [], h) := X_in (e := (yX12_qWordOf, 12, cX12_qWordOf, 4, (some .int), 2, false, _, _, _, _)) rfl (Nat.le_of_ble_eq_true rfl)
set_option maxRecDepth 100000 in
theorem Xe_X12_qAsksWord (d : Nat) (a0 : Nat) (x0 : Int32) (h : Hp) : X (d + 1) 247 [.ref a0, .int x0] h = Rn (X d) 12 (none) false 2 cX12_qAsksWord (0, [(0, .ref a0), (1, .int x0)], [], h) := X_in (e := (yX12_qAsksWord, 12, cX12_qAsksWord, 2, (none), 1, false, _, _, _, _)) rfl (Nat.le_of_ble_eq_true rfl)
set_option maxRecDepth 100000 in
theorem Xe_X12_qEndsPart (d : Nat) (a0 : Nat) (h : Hp) : X (d + 1) 248 [.ref a0] h = Rn (X d) 12 (none) false 1 cX12_qEndsPart (0, [(0, .ref a0)], [], h) := X_in (e := (yX12_qEndsPart, 12, cX12_qEndsPart, 1, (none), 0, false, _, _, _, _)) rfl (Nat.le_of_ble_eq_true rfl)
set_option maxRecDepth 100000 in
theorem Xe_X12_qPartTold (d : Nat) (a0 : Nat) (h : Hp) : X (d + 1) 249 [.ref a0] h = Rn (X d) 12 (none) false 6 cX12_qPartTold (0, [(0, .ref a0)], [], h) := X_in (e := (yX12_qPartTold, 12, cX12_qPartTold, 6, (none), 0, false, _, _, _, _)) rfl (Nat.le_of_ble_eq_true rfl)
set_option maxRecDepth 100000 in
theorem Xe_X12_qGoesOn (d : Nat) (a0 : Nat) (h : Hp) : X (d + 1) 250 [.ref a0] h = Rn (X d) 12 (some .boolean) false 2 cX12_qGoesOn (0, [(0, .ref a0)], [], h) := X_in (e := (yX12_qGoesOn, 12, cX12_qGoesOn, 2, (some .boolean), 0, false, _, _, _, _)) rfl (Nat.le_of_ble_eq_true rfl)
set_option maxRecDepth 100000 in
theorem Xe_X12_qSums (d : Nat) (a0 : Nat) (h : Hp) : X (d + 1) 251 [.ref a0] h = Rn (X d) 12 (none) false 3 cX12_qSums (0, [(0, .ref a0)], [], h) := X_in (e := (yX12_qSums, 12, cX12_qSums, 3, (none), 0, false, _, _, _, _)) rfl (Nat.le_of_ble_eq_true rfl)
set_option maxRecDepth 100000 in
theorem Xe_X12_qFact (d : Nat) (a0 : Nat) (h : Hp) : X (d + 1) 252 [.ref a0] h = Rn (X d) 12 (none) false 2 cX12_qFact (0, [(0, .ref a0)], [], h) := X_in (e := (yX12_qFact, 12, cX12_qFact, 2, (none), 0, false, _, _, _, _)) rfl (Nat.le_of_ble_eq_true rfl)
set_option maxRecDepth 100000 in
theorem Xe_X12_qHasSquare (d : Nat) (a0 : Nat) (h : Hp) : X (d + 1) 253 [.ref a0] h = Rn (X d) 12 (some .boolean) false 2 cX12_qHasSquare (0, [(0, .ref a0)], [], h) := X_in (e := (yX12_qHasSquare, 12, cX12_qHasSquare, 2, (some .boolean), 0, false, _, _, _, _)) rfl (Nat.le_of_ble_eq_true rfl)
set_option maxRecDepth 100000 in
theorem Xe_X12_qDropsNots (d : Nat) (a0 : Nat) (h : Hp) : X (d + 1) 254 [.ref a0] h = Rn (X d) 12 (none) false 1 cX12_qDropsNots (0, [(0, .ref a0)], [], h) := X_in (e := (yX12_qDropsNots, 12, cX12_qDropsNots, 1, (none), 0, false, _, _, _, _)) rfl (Nat.le_of_ble_eq_true rfl)
set_option maxRecDepth 100000 in
theorem Xe_X12_qTest (d : Nat) (a0 : Nat) (h : Hp) : X (d + 1) 255 [.ref a0] h = Rn (X d) 12 (none) false 3 cX12_qTest (0, [(0, .ref a0)], [], h) := X_in (e := (yX12_qTest, 12, cX12_qTest, 3, (none), 0, false, _, _, _, _)) rfl (Nat.le_of_ble_eq_true rfl)
set_option maxRecDepth 100000 in
theorem Xe_X12_qGoesOnTest (d : Nat) (a0 : Nat) (h : Hp) : X (d + 1) 256 [.ref a0] h = Rn (X d) 12 (some .boolean) false 1 cX12_qGoesOnTest (0, [(0, .ref a0)], [], h) := X_in (e := (yX12_qGoesOnTest, 12, cX12_qGoesOnTest, 1, (some .boolean), 0, false, _, _, _, _)) rfl (Nat.le_of_ble_eq_true rfl)
set_option maxRecDepth 100000 in
theorem Xe_X12_qClip (d : Nat) (x0 : Int64) (h : Hp) : X (d + 1) 257 [.long x0] h = Rn (X d) 12 (some .long) false 2 cX12_qClip (0, [(0, .long x0)], [], h) := X_in (e := (yX12_qClip, 12, cX12_qClip, 2, (some .long), 1, false, _, _, _, _)) rfl (Nat.le_of_ble_eq_true rfl)
set_option maxRecDepth 100000 in
theorem Xe_X12_qFloor (d : Nat) (x0 : Int64) (x1 : Int64) (h : Hp) : X (d + 1) 258 [.long x0, .long x1] h = Rn (X d) 12 (some .long) false 6 cX12_qFloor (0, [(0, .long x0), (2, .long x1)], [], h) := X_in (e := (yX12_qFloor, 12, cX12_qFloor, 6, (some .long), 2, false, _, _, _, _)) rfl (Nat.le_of_ble_eq_true rfl)
set_option maxRecDepth 100000 in
theorem Xe_X12_qPuts (d : Nat) (a0 : Nat) (x0 : Int64) (h : Hp) : X (d + 1) 259 [.ref a0, .long x0] h = Rn (X d) 12 (none) false 3 cX12_qPuts (0, [(0, .ref a0), (1, .long x0)], [], h) := X_in (e := (yX12_qPuts, 12, cX12_qPuts, 3, (none), 1, false, _, _, _, _)) rfl (Nat.le_of_ble_eq_true rfl)
set_option maxRecDepth 100000 in
theorem Xe_X12_qJoins (d : Nat) (a0 : Nat) (x0 : Int32) (h : Hp) : X (d + 1) 260 [.ref a0, .int x0] h = Rn (X d) 12 (none) false 6 cX12_qJoins (0, [(0, .ref a0), (1, .int x0)], [], h) := X_in (e := (yX12_qJoins, 12, cX12_qJoins, 6, (none), 1, false, _, _, _, _)) rfl (Nat.le_of_ble_eq_true rfl)
set_option maxRecDepth 100000 in
theorem Xe_X12_qPartOf (d : Nat) (a0 : Nat) (x0 : Int32) (x1 : Int32) (h : Hp) : X (d + 1) 261 [.ref a0, .int x0, .int x1] h = Rn (X d) 12 (some .long) false 3 cX12_qPartOf (0, [(0, .ref a0), (1, .int x0), (2, .int x1)], [], h) := X_in (e := (yX12_qPartOf, 12, cX12_qPartOf, 3, (some .long), 2, false, _, _, _, _)) rfl (Nat.le_of_ble_eq_true rfl)
set_option maxRecDepth 100000 in
theorem Xe_X12_qOf (d : Nat) (a0 : Nat) (x0 : Int32) (x1 : Int64) (x2 : Int32) (h : Hp) : X (d + 1) 262 [.ref a0, .int x0, .long x1, .int x2] h = Rn (X d) 12 (some .long) false 5 cX12_qOf (0, [(0, .ref a0), (1, .int x0), (2, .long x1), (4, .int x2)], [], h) := X_in (e := (yX12_qOf, 12, cX12_qOf, 5, (some .long), 3, false, _, _, _, _)) rfl (Nat.le_of_ble_eq_true rfl)
set_option maxRecDepth 100000 in
theorem Xe_X12_qTold (d : Nat) (a0 : Nat) (x0 : Int32) (h : Hp) : X (d + 1) 263 [.ref a0, .int x0] h = Rn (X d) 12 (some .long) false 4 cX12_qTold (0, [(0, .ref a0), (1, .int x0)], [], h) := X_in (e := (yX12_qTold, 12, cX12_qTold, 4, (some .long), 1, false, _, _, _, _)) rfl (Nat.le_of_ble_eq_true rfl)
set_option maxRecDepth 100000 in
theorem Xe_X12_qKind (d : Nat) (a0 : Nat) (h : Hp) : X (d + 1) 264 [.ref a0] h = Rn (X d) 12 (some .int) false 2 cX12_qKind (0, [(0, .ref a0)], [], h) := X_in (e := (yX12_qKind, 12, cX12_qKind, 2, (some .int), 0, false, _, _, _, _)) rfl (Nat.le_of_ble_eq_true rfl)
set_option maxRecDepth 100000 in
theorem Xe_X12_qTakes (d : Nat) (a0 : Nat) (x0 : Int32) (x1 : Int64) (x2 : Int32) (h : Hp) : X (d + 1) 265 [.ref a0, .int x0, .long x1, .int x2] h = Rn (X d) 12 (none) false 6 cX12_qTakes (0, [(0, .ref a0), (1, .int x0), (2, .long x1), (4, .int x2)], [], h) := X_in (e := (yX12_qTakes, 12, cX12_qTakes, 6, (none), 3, false, _, _, _, _)) rfl (Nat.le_of_ble_eq_true rfl)
set_option maxRecDepth 100000 in
theorem Xe_X12_ask (d : Nat) (a0 : Nat) (x0 : Int32) (h : Hp) : X (d + 1) 266 [.ref a0, .int x0] h = Rn (X d) 12 (some .long) false 4 cX12_ask (0, [(0, .ref a0), (1, .int x0)], [], h) := X_in (e := (yX12_ask, 12, cX12_ask, 4, (some .long), 1, false, _, _, _, _)) rfl (Nat.le_of_ble_eq_true rfl)
set_option maxRecDepth 100000 in
theorem Xe_X12_checked (d : Nat) (y0 : Nat) (x1 : Int32) (h : Hp) : X (d + 1) 267 [.ref y0, .int x1] h = Rn (X d) 12 (some .int) false 4 cX12_checked (0, [(0, .ref y0), (1, .int x1)], [], h) := X_in (e := (yX12_checked, 12, cX12_checked, 4, (some .int), 2, false, _, _, _, _)) rfl (Nat.le_of_ble_eq_true rfl)
set_option maxRecDepth 100000 in
theorem Xe_X12_writes (d : Nat) (a0 : Nat) (x0 : Int32) (h : Hp) : X (d + 1) 268 [.ref a0, .int x0] h = Rn (X d) 12 (none) false 2 cX12_writes (0, [(0, .ref a0), (1, .int x0)], [], h) := X_in (e := (yX12_writes, 12, cX12_writes, 2, (none), 1, false, _, _, _, _)) rfl (Nat.le_of_ble_eq_true rfl)
set_option maxRecDepth 100000 in
theorem Xe_X12_image (d : Nat) (a0 : Nat) (h : Hp) : X (d + 1) 269 [.ref a0] h = Rn (X d) 12 (some .int) false 3 cX12_image (0, [(0, .ref a0)], [], h) := X_in (e := (yX12_image, 12, cX12_image, 3, (some .int), 0, false, _, _, _, _)) rfl (Nat.le_of_ble_eq_true rfl)
set_option maxRecDepth 100000 in
theorem Xe_X12_octet (d : Nat) (a0 : Nat) (x0 : Int32) (h : Hp) : X (d + 1) 270 [.ref a0, .int x0] h = Rn (X d) 12 (some .int) false 2 cX12_octet (0, [(0, .ref a0), (1, .int x0)], [], h) := X_in (e := (yX12_octet, 12, cX12_octet, 2, (some .int), 1, false, _, _, _, _)) rfl (Nat.le_of_ble_eq_true rfl)
set_option maxRecDepth 100000 in
theorem Xe_X12_loavesFrom (d : Nat) (a0 : Nat) (h : Hp) : X (d + 1) 271 [.ref a0] h = Rn (X d) 12 (some .int) false 1 cX12_loavesFrom (0, [(0, .ref a0)], [], h) := X_in (e := (yX12_loavesFrom, 12, cX12_loavesFrom, 1, (some .int), 0, false, _, _, _, _)) rfl (Nat.le_of_ble_eq_true rfl)
set_option maxRecDepth 100000 in
theorem Xe_X12_isTold (d : Nat) (a0 : Nat) (x0 : Int32) (h : Hp) : X (d + 1) 272 [.ref a0, .int x0] h = Rn (X d) 12 (some .boolean) false 6 cX12_isTold (0, [(0, .ref a0), (1, .int x0)], [], h) := X_in (e := (yX12_isTold, 12, cX12_isTold, 6, (some .boolean), 1, false, _, _, _, _)) rfl (Nat.le_of_ble_eq_true rfl)
set_option maxRecDepth 100000 in
theorem Xe_X12_on (d : Nat) (a0 : Nat) (h : Hp) : X (d + 1) 273 [.ref a0] h = Rn (X d) 12 (some .boolean) false 5 cX12_on (0, [(0, .ref a0)], [], h) := X_in (e := (yX12_on, 12, cX12_on, 5, (some .boolean), 0, false, _, _, _, _)) rfl (Nat.le_of_ble_eq_true rfl)
set_option maxRecDepth 100000 in
theorem Xe_X12_status (d : Nat) (a0 : Nat) (x0 : Int32) (h : Hp) : X (d + 1) 274 [.ref a0, .int x0] h = Rn (X d) 12 (some .int) false 2 cX12_status (0, [(0, .ref a0), (1, .int x0)], [], h) := X_in (e := (yX12_status, 12, cX12_status, 2, (some .int), 1, false, _, _, _, _)) rfl (Nat.le_of_ble_eq_true rfl)
set_option maxRecDepth 100000 in
theorem Xe_J6_bitCount_0f7a4 (d : Nat) (x0 : Int32) (h : Hp) : X (d + 1) 275 [.int x0] h = Rn (X d) 13 (some .int) false 1 cJ6_bitCount_0f7a4 (0, [(0, .int x0)], [], h) := X_in (e := (yJ6_bitCount_0f7a4, 13, cJ6_bitCount_0f7a4, 1, (some .int), 1, false, _, _, _, _)) rfl (Nat.le_of_ble_eq_true rfl)
set_option maxRecDepth 100000 in
theorem Xe_J9_floorDiv_7cf53 (d : Nat) (x0 : Int32) (x1 : Int32) (h : Hp) : X (d + 1) 276 [.int x0, .int x1] h = Rn (X d) 14 (some .int) false 3 cJ9_floorDiv_7cf53 (0, [(0, .int x0), (1, .int x1)], [], h) := X_in (e := (yJ9_floorDiv_7cf53, 14, cJ9_floorDiv_7cf53, 3, (some .int), 2, false, _, _, _, _)) rfl (Nat.le_of_ble_eq_true rfl)
set_option maxRecDepth 100000 in
theorem Xe_J9_abs_0f7a4 (d : Nat) (x0 : Int32) (h : Hp) : X (d + 1) 277 [.int x0] h = Rn (X d) 14 (some .int) false 1 cJ9_abs_0f7a4 (0, [(0, .int x0)], [], h) := X_in (e := (yJ9_abs_0f7a4, 14, cJ9_abs_0f7a4, 1, (some .int), 1, false, _, _, _, _)) rfl (Nat.le_of_ble_eq_true rfl)
set_option maxRecDepth 100000 in
theorem Xe_J9_max_7cf53 (d : Nat) (x0 : Int32) (x1 : Int32) (h : Hp) : X (d + 1) 278 [.int x0, .int x1] h = Rn (X d) 14 (some .int) false 2 cJ9_max_7cf53 (0, [(0, .int x0), (1, .int x1)], [], h) := X_in (e := (yJ9_max_7cf53, 14, cJ9_max_7cf53, 2, (some .int), 2, false, _, _, _, _)) rfl (Nat.le_of_ble_eq_true rfl)
set_option maxRecDepth 100000 in
theorem Xe_J9_max_f86c9 (d : Nat) (x0 : Int64) (x1 : Int64) (h : Hp) : X (d + 1) 279 [.long x0, .long x1] h = Rn (X d) 14 (some .long) false 4 cJ9_max_f86c9 (0, [(0, .long x0), (2, .long x1)], [], h) := X_in (e := (yJ9_max_f86c9, 14, cJ9_max_f86c9, 4, (some .long), 2, false, _, _, _, _)) rfl (Nat.le_of_ble_eq_true rfl)
set_option maxRecDepth 100000 in
theorem Xe_J9_min_7cf53 (d : Nat) (x0 : Int32) (x1 : Int32) (h : Hp) : X (d + 1) 280 [.int x0, .int x1] h = Rn (X d) 14 (some .int) false 2 cJ9_min_7cf53 (0, [(0, .int x0), (1, .int x1)], [], h) := X_in (e := (yJ9_min_7cf53, 14, cJ9_min_7cf53, 2, (some .int), 2, false, _, _, _, _)) rfl (Nat.le_of_ble_eq_true rfl)
set_option maxRecDepth 100000 in
theorem Xe_J9_min_f86c9 (d : Nat) (x0 : Int64) (x1 : Int64) (h : Hp) : X (d + 1) 281 [.long x0, .long x1] h = Rn (X d) 14 (some .long) false 4 cJ9_min_f86c9 (0, [(0, .long x0), (2, .long x1)], [], h) := X_in (e := (yJ9_min_f86c9, 14, cJ9_min_f86c9, 4, (some .long), 2, false, _, _, _, _)) rfl (Nat.le_of_ble_eq_true rfl)
set_option maxRecDepth 100000 in
theorem Xe_J0_length_8abf5 (d : Nat) (a0 : Nat) (h : Hp) : X (d + 1) 282 [.ref a0] h = Rn (X d) 15 (some .int) false 1 cJ0_length_8abf5 (0, [(0, .ref a0)], [], h) := X_in (e := (yJ0_length_8abf5, 15, cJ0_length_8abf5, 1, (some .int), 0, false, _, _, _, _)) rfl (Nat.le_of_ble_eq_true rfl)
set_option maxRecDepth 100000 in
theorem Xe_J0_charAt_5068e (d : Nat) (a0 : Nat) (x0 : Int32) (h : Hp) : X (d + 1) 283 [.ref a0, .int x0] h = Rn (X d) 15 (some .char) false 2 cJ0_charAt_5068e (0, [(0, .ref a0), (1, .int x0)], [], h) := X_in (e := (yJ0_charAt_5068e, 15, cJ0_charAt_5068e, 2, (some .char), 1, false, _, _, _, _)) rfl (Nat.le_of_ble_eq_true rfl)
set_option maxRecDepth 100000 in
theorem Xe_J0_coder_7d493 (d : Nat) (a0 : Nat) (h : Hp) : X (d + 1) 284 [.ref a0] h = Rn (X d) 15 (some .byte) false 1 cJ0_coder_7d493 (0, [(0, .ref a0)], [], h) := X_in (e := (yJ0_coder_7d493, 15, cJ0_coder_7d493, 1, (some .byte), 0, false, _, _, _, _)) rfl (Nat.le_of_ble_eq_true rfl)
set_option maxRecDepth 100000 in
theorem Xe_J0_isLatin1_aae02 (d : Nat) (a0 : Nat) (h : Hp) : X (d + 1) 285 [.ref a0] h = Rn (X d) 15 (some .boolean) false 1 cJ0_isLatin1_aae02 (0, [(0, .ref a0)], [], h) := X_in (e := (yJ0_isLatin1_aae02, 15, cJ0_isLatin1_aae02, 1, (some .boolean), 0, false, _, _, _, _)) rfl (Nat.le_of_ble_eq_true rfl)
set_option maxRecDepth 100000 in
theorem Xe_J1_charAt_3b067 (d : Nat) (y0 : Nat) (x1 : Int32) (h : Hp) : X (d + 1) 286 [.ref y0, .int x1] h = Rn (X d) 16 (some .char) false 2 cJ1_charAt_3b067 (0, [(0, .ref y0), (1, .int x1)], [], h) := X_in (e := (yJ1_charAt_3b067, 16, cJ1_charAt_3b067, 2, (some .char), 2, false, _, _, _, _)) rfl (Nat.le_of_ble_eq_true rfl)
set_option maxRecDepth 100000 in
theorem Xe_J7_fill_53178 (d : Nat) (y0 : Nat) (x1 : Int32) (h : Hp) : X (d + 1) 287 [.ref y0, .int x1] h = Rn (X d) 17 (none) false 4 cJ7_fill_53178 (0, [(0, .ref y0), (1, .int x1)], [], h) := X_in (e := (yJ7_fill_53178, 17, cJ7_fill_53178, 4, (none), 2, false, _, _, _, _)) rfl (Nat.le_of_ble_eq_true rfl)
set_option maxRecDepth 100000 in
theorem Xe_J0_checkIndex_df160 (d : Nat) (x0 : Int32) (x1 : Int32) (h : Hp) : X (d + 1) 288 [.int x0, .int x1] h = Rn (X d) 15 (none) false 2 cJ0_checkIndex_df160 (0, [(0, .int x0), (1, .int x1)], [], h) := X_in (e := (yJ0_checkIndex_df160, 15, cJ0_checkIndex_df160, 2, (none), 2, false, _, _, _, _)) rfl (Nat.le_of_ble_eq_true rfl)
set_option maxRecDepth 100000 in
theorem Xe_J3_checkIndex_8e157 (d : Nat) (x0 : Int32) (x1 : Int32) (h : Hp) : X (d + 1) 289 [.int x0, .int x1, opq] h = Rn (X d) 20 (some .int) false 3 cJ3_checkIndex_8e157 (0, [(0, .int x0), (1, .int x1), (2, opq)], [], h) := X_in (e := (yJ3_checkIndex_8e157, 20, cJ3_checkIndex_8e157, 3, (some .int), 3, false, _, _, _, _)) rfl (Nat.le_of_ble_eq_true rfl)
set_option maxRecDepth 100000 in
theorem Xe_L_law (d : Nat) (y0 : Nat) (h : Hp) : X (d + 1) 290 [.ref y0] h = Rn (X d) 19 (some .boolean) false 4 cL_law (0, [(0, .ref y0)], [], h) := X_in (e := (yL_law, 19, cL_law, 4, (some .boolean), 1, false, _, _, _, _)) rfl (Nat.le_of_ble_eq_true rfl)
set_option maxRecDepth 100000 in
theorem mo_0 : (MT[0]?).map (fun e => e.2.1) = some 0 := rfl
set_option maxRecDepth 100000 in
theorem mo_1 : (MT[1]?).map (fun e => e.2.1) = some 0 := rfl
set_option maxRecDepth 100000 in
theorem mo_2 : (MT[2]?).map (fun e => e.2.1) = some 1 := rfl
set_option maxRecDepth 100000 in
theorem mo_3 : (MT[3]?).map (fun e => e.2.1) = some 1 := rfl
set_option maxRecDepth 100000 in
theorem mo_4 : (MT[4]?).map (fun e => e.2.1) = some 1 := rfl
set_option maxRecDepth 100000 in
theorem mo_5 : (MT[5]?).map (fun e => e.2.1) = some 1 := rfl
set_option maxRecDepth 100000 in
theorem mo_6 : (MT[6]?).map (fun e => e.2.1) = some 1 := rfl
set_option maxRecDepth 100000 in
theorem mo_7 : (MT[7]?).map (fun e => e.2.1) = some 1 := rfl
set_option maxRecDepth 100000 in
theorem mo_8 : (MT[8]?).map (fun e => e.2.1) = some 1 := rfl
set_option maxRecDepth 100000 in
theorem mo_9 : (MT[9]?).map (fun e => e.2.1) = some 1 := rfl
set_option maxRecDepth 100000 in
theorem mo_10 : (MT[10]?).map (fun e => e.2.1) = some 1 := rfl
set_option maxRecDepth 100000 in
theorem mo_11 : (MT[11]?).map (fun e => e.2.1) = some 1 := rfl
set_option maxRecDepth 100000 in
theorem mo_12 : (MT[12]?).map (fun e => e.2.1) = some 1 := rfl
set_option maxRecDepth 100000 in
theorem mo_13 : (MT[13]?).map (fun e => e.2.1) = some 1 := rfl
set_option maxRecDepth 100000 in
theorem mo_14 : (MT[14]?).map (fun e => e.2.1) = some 2 := rfl
set_option maxRecDepth 100000 in
theorem mo_15 : (MT[15]?).map (fun e => e.2.1) = some 2 := rfl
set_option maxRecDepth 100000 in
theorem mo_16 : (MT[16]?).map (fun e => e.2.1) = some 2 := rfl
set_option maxRecDepth 100000 in
theorem mo_17 : (MT[17]?).map (fun e => e.2.1) = some 2 := rfl
set_option maxRecDepth 100000 in
theorem mo_18 : (MT[18]?).map (fun e => e.2.1) = some 2 := rfl
set_option maxRecDepth 100000 in
theorem mo_19 : (MT[19]?).map (fun e => e.2.1) = some 2 := rfl
set_option maxRecDepth 100000 in
theorem mo_20 : (MT[20]?).map (fun e => e.2.1) = some 2 := rfl
set_option maxRecDepth 100000 in
theorem mo_21 : (MT[21]?).map (fun e => e.2.1) = some 2 := rfl
set_option maxRecDepth 100000 in
theorem mo_22 : (MT[22]?).map (fun e => e.2.1) = some 2 := rfl
set_option maxRecDepth 100000 in
theorem mo_23 : (MT[23]?).map (fun e => e.2.1) = some 3 := rfl
set_option maxRecDepth 100000 in
theorem mo_24 : (MT[24]?).map (fun e => e.2.1) = some 3 := rfl
set_option maxRecDepth 100000 in
theorem mo_25 : (MT[25]?).map (fun e => e.2.1) = some 3 := rfl
set_option maxRecDepth 100000 in
theorem mo_26 : (MT[26]?).map (fun e => e.2.1) = some 4 := rfl
set_option maxRecDepth 100000 in
theorem mo_27 : (MT[27]?).map (fun e => e.2.1) = some 4 := rfl
set_option maxRecDepth 100000 in
theorem mo_28 : (MT[28]?).map (fun e => e.2.1) = some 4 := rfl
set_option maxRecDepth 100000 in
theorem mo_32 : (MT[32]?).map (fun e => e.2.1) = some 5 := rfl
set_option maxRecDepth 100000 in
theorem mo_33 : (MT[33]?).map (fun e => e.2.1) = some 5 := rfl
set_option maxRecDepth 100000 in
theorem mo_34 : (MT[34]?).map (fun e => e.2.1) = some 5 := rfl
set_option maxRecDepth 100000 in
theorem mo_36 : (MT[36]?).map (fun e => e.2.1) = some 5 := rfl
set_option maxRecDepth 100000 in
theorem mo_37 : (MT[37]?).map (fun e => e.2.1) = some 5 := rfl
set_option maxRecDepth 100000 in
theorem mo_38 : (MT[38]?).map (fun e => e.2.1) = some 5 := rfl
set_option maxRecDepth 100000 in
theorem mo_39 : (MT[39]?).map (fun e => e.2.1) = some 5 := rfl
set_option maxRecDepth 100000 in
theorem mo_40 : (MT[40]?).map (fun e => e.2.1) = some 6 := rfl
set_option maxRecDepth 100000 in
theorem mo_41 : (MT[41]?).map (fun e => e.2.1) = some 6 := rfl
set_option maxRecDepth 100000 in
theorem mo_42 : (MT[42]?).map (fun e => e.2.1) = some 6 := rfl
set_option maxRecDepth 100000 in
theorem mo_43 : (MT[43]?).map (fun e => e.2.1) = some 6 := rfl
set_option maxRecDepth 100000 in
theorem mo_44 : (MT[44]?).map (fun e => e.2.1) = some 6 := rfl
set_option maxRecDepth 100000 in
theorem mo_45 : (MT[45]?).map (fun e => e.2.1) = some 6 := rfl
set_option maxRecDepth 100000 in
theorem mo_48 : (MT[48]?).map (fun e => e.2.1) = some 6 := rfl
set_option maxRecDepth 100000 in
theorem mo_49 : (MT[49]?).map (fun e => e.2.1) = some 6 := rfl
set_option maxRecDepth 100000 in
theorem mo_50 : (MT[50]?).map (fun e => e.2.1) = some 6 := rfl
set_option maxRecDepth 100000 in
theorem mo_51 : (MT[51]?).map (fun e => e.2.1) = some 6 := rfl
set_option maxRecDepth 100000 in
theorem mo_52 : (MT[52]?).map (fun e => e.2.1) = some 6 := rfl
set_option maxRecDepth 100000 in
theorem mo_53 : (MT[53]?).map (fun e => e.2.1) = some 6 := rfl
set_option maxRecDepth 100000 in
theorem mo_54 : (MT[54]?).map (fun e => e.2.1) = some 6 := rfl
set_option maxRecDepth 100000 in
theorem mo_55 : (MT[55]?).map (fun e => e.2.1) = some 6 := rfl
set_option maxRecDepth 100000 in
theorem mo_56 : (MT[56]?).map (fun e => e.2.1) = some 6 := rfl
set_option maxRecDepth 100000 in
theorem mo_57 : (MT[57]?).map (fun e => e.2.1) = some 7 := rfl
set_option maxRecDepth 100000 in
theorem mo_58 : (MT[58]?).map (fun e => e.2.1) = some 7 := rfl
set_option maxRecDepth 100000 in
theorem mo_59 : (MT[59]?).map (fun e => e.2.1) = some 7 := rfl
set_option maxRecDepth 100000 in
theorem mo_60 : (MT[60]?).map (fun e => e.2.1) = some 7 := rfl
set_option maxRecDepth 100000 in
theorem mo_63 : (MT[63]?).map (fun e => e.2.1) = some 8 := rfl
set_option maxRecDepth 100000 in
theorem mo_64 : (MT[64]?).map (fun e => e.2.1) = some 8 := rfl
set_option maxRecDepth 100000 in
theorem mo_68 : (MT[68]?).map (fun e => e.2.1) = some 8 := rfl
set_option maxRecDepth 100000 in
theorem mo_69 : (MT[69]?).map (fun e => e.2.1) = some 8 := rfl
set_option maxRecDepth 100000 in
theorem mo_70 : (MT[70]?).map (fun e => e.2.1) = some 9 := rfl
set_option maxRecDepth 100000 in
theorem mo_71 : (MT[71]?).map (fun e => e.2.1) = some 9 := rfl
set_option maxRecDepth 100000 in
theorem mo_72 : (MT[72]?).map (fun e => e.2.1) = some 9 := rfl
set_option maxRecDepth 100000 in
theorem mo_73 : (MT[73]?).map (fun e => e.2.1) = some 9 := rfl
set_option maxRecDepth 100000 in
theorem mo_74 : (MT[74]?).map (fun e => e.2.1) = some 9 := rfl
set_option maxRecDepth 100000 in
theorem mo_75 : (MT[75]?).map (fun e => e.2.1) = some 9 := rfl
set_option maxRecDepth 100000 in
theorem mo_76 : (MT[76]?).map (fun e => e.2.1) = some 9 := rfl
set_option maxRecDepth 100000 in
theorem mo_77 : (MT[77]?).map (fun e => e.2.1) = some 9 := rfl
set_option maxRecDepth 100000 in
theorem mo_78 : (MT[78]?).map (fun e => e.2.1) = some 10 := rfl
set_option maxRecDepth 100000 in
theorem mo_79 : (MT[79]?).map (fun e => e.2.1) = some 10 := rfl
set_option maxRecDepth 100000 in
theorem mo_80 : (MT[80]?).map (fun e => e.2.1) = some 10 := rfl
set_option maxRecDepth 100000 in
theorem mo_81 : (MT[81]?).map (fun e => e.2.1) = some 10 := rfl
set_option maxRecDepth 100000 in
theorem mo_82 : (MT[82]?).map (fun e => e.2.1) = some 10 := rfl
set_option maxRecDepth 100000 in
theorem mo_83 : (MT[83]?).map (fun e => e.2.1) = some 10 := rfl
set_option maxRecDepth 100000 in
theorem mo_84 : (MT[84]?).map (fun e => e.2.1) = some 10 := rfl
set_option maxRecDepth 100000 in
theorem mo_85 : (MT[85]?).map (fun e => e.2.1) = some 10 := rfl
set_option maxRecDepth 100000 in
theorem mo_86 : (MT[86]?).map (fun e => e.2.1) = some 10 := rfl
set_option maxRecDepth 100000 in
theorem mo_87 : (MT[87]?).map (fun e => e.2.1) = some 10 := rfl
set_option maxRecDepth 100000 in
theorem mo_88 : (MT[88]?).map (fun e => e.2.1) = some 10 := rfl
set_option maxRecDepth 100000 in
theorem mo_89 : (MT[89]?).map (fun e => e.2.1) = some 11 := rfl
set_option maxRecDepth 100000 in
theorem mo_90 : (MT[90]?).map (fun e => e.2.1) = some 11 := rfl
set_option maxRecDepth 100000 in
theorem mo_91 : (MT[91]?).map (fun e => e.2.1) = some 11 := rfl
set_option maxRecDepth 100000 in
theorem mo_92 : (MT[92]?).map (fun e => e.2.1) = some 11 := rfl
set_option maxRecDepth 100000 in
theorem mo_93 : (MT[93]?).map (fun e => e.2.1) = some 11 := rfl
set_option maxRecDepth 100000 in
theorem mo_94 : (MT[94]?).map (fun e => e.2.1) = some 11 := rfl
set_option maxRecDepth 100000 in
theorem mo_95 : (MT[95]?).map (fun e => e.2.1) = some 11 := rfl
set_option maxRecDepth 100000 in
theorem mo_96 : (MT[96]?).map (fun e => e.2.1) = some 11 := rfl
set_option maxRecDepth 100000 in
theorem mo_97 : (MT[97]?).map (fun e => e.2.1) = some 11 := rfl
set_option maxRecDepth 100000 in
theorem mo_98 : (MT[98]?).map (fun e => e.2.1) = some 11 := rfl
set_option maxRecDepth 100000 in
theorem mo_99 : (MT[99]?).map (fun e => e.2.1) = some 11 := rfl
set_option maxRecDepth 100000 in
theorem mo_100 : (MT[100]?).map (fun e => e.2.1) = some 11 := rfl
set_option maxRecDepth 100000 in
theorem mo_101 : (MT[101]?).map (fun e => e.2.1) = some 11 := rfl
set_option maxRecDepth 100000 in
theorem mo_102 : (MT[102]?).map (fun e => e.2.1) = some 11 := rfl
set_option maxRecDepth 100000 in
theorem mo_103 : (MT[103]?).map (fun e => e.2.1) = some 11 := rfl
set_option maxRecDepth 100000 in
theorem mo_104 : (MT[104]?).map (fun e => e.2.1) = some 11 := rfl
set_option maxRecDepth 100000 in
theorem mo_105 : (MT[105]?).map (fun e => e.2.1) = some 11 := rfl
set_option maxRecDepth 100000 in
theorem mo_106 : (MT[106]?).map (fun e => e.2.1) = some 11 := rfl
set_option maxRecDepth 100000 in
theorem mo_107 : (MT[107]?).map (fun e => e.2.1) = some 11 := rfl
set_option maxRecDepth 100000 in
theorem mo_108 : (MT[108]?).map (fun e => e.2.1) = some 11 := rfl
set_option maxRecDepth 100000 in
theorem mo_109 : (MT[109]?).map (fun e => e.2.1) = some 11 := rfl
set_option maxRecDepth 100000 in
theorem mo_110 : (MT[110]?).map (fun e => e.2.1) = some 11 := rfl
set_option maxRecDepth 100000 in
theorem mo_111 : (MT[111]?).map (fun e => e.2.1) = some 11 := rfl
set_option maxRecDepth 100000 in
theorem mo_112 : (MT[112]?).map (fun e => e.2.1) = some 11 := rfl
set_option maxRecDepth 100000 in
theorem mo_113 : (MT[113]?).map (fun e => e.2.1) = some 11 := rfl
set_option maxRecDepth 100000 in
theorem mo_114 : (MT[114]?).map (fun e => e.2.1) = some 11 := rfl
set_option maxRecDepth 100000 in
theorem mo_115 : (MT[115]?).map (fun e => e.2.1) = some 11 := rfl
set_option maxRecDepth 100000 in
theorem mo_116 : (MT[116]?).map (fun e => e.2.1) = some 11 := rfl
set_option maxRecDepth 100000 in
theorem mo_117 : (MT[117]?).map (fun e => e.2.1) = some 11 := rfl
set_option maxRecDepth 100000 in
theorem mo_118 : (MT[118]?).map (fun e => e.2.1) = some 11 := rfl
set_option maxRecDepth 100000 in
theorem mo_119 : (MT[119]?).map (fun e => e.2.1) = some 11 := rfl
set_option maxRecDepth 100000 in
theorem mo_120 : (MT[120]?).map (fun e => e.2.1) = some 11 := rfl
set_option maxRecDepth 100000 in
theorem mo_121 : (MT[121]?).map (fun e => e.2.1) = some 11 := rfl
set_option maxRecDepth 100000 in
theorem mo_122 : (MT[122]?).map (fun e => e.2.1) = some 11 := rfl
set_option maxRecDepth 100000 in
theorem mo_123 : (MT[123]?).map (fun e => e.2.1) = some 11 := rfl
set_option maxRecDepth 100000 in
theorem mo_124 : (MT[124]?).map (fun e => e.2.1) = some 11 := rfl
set_option maxRecDepth 100000 in
theorem mo_125 : (MT[125]?).map (fun e => e.2.1) = some 11 := rfl
set_option maxRecDepth 100000 in
theorem mo_126 : (MT[126]?).map (fun e => e.2.1) = some 11 := rfl
set_option maxRecDepth 100000 in
theorem mo_129 : (MT[129]?).map (fun e => e.2.1) = some 11 := rfl
set_option maxRecDepth 100000 in
theorem mo_131 : (MT[131]?).map (fun e => e.2.1) = some 11 := rfl
set_option maxRecDepth 100000 in
theorem mo_132 : (MT[132]?).map (fun e => e.2.1) = some 11 := rfl
set_option maxRecDepth 100000 in
theorem mo_133 : (MT[133]?).map (fun e => e.2.1) = some 11 := rfl
set_option maxRecDepth 100000 in
theorem mo_134 : (MT[134]?).map (fun e => e.2.1) = some 11 := rfl
set_option maxRecDepth 100000 in
theorem mo_135 : (MT[135]?).map (fun e => e.2.1) = some 12 := rfl
set_option maxRecDepth 100000 in
theorem mo_137 : (MT[137]?).map (fun e => e.2.1) = some 12 := rfl
set_option maxRecDepth 100000 in
theorem mo_138 : (MT[138]?).map (fun e => e.2.1) = some 12 := rfl
set_option maxRecDepth 100000 in
theorem mo_139 : (MT[139]?).map (fun e => e.2.1) = some 12 := rfl
set_option maxRecDepth 100000 in
theorem mo_142 : (MT[142]?).map (fun e => e.2.1) = some 12 := rfl
set_option maxRecDepth 100000 in
theorem mo_143 : (MT[143]?).map (fun e => e.2.1) = some 12 := rfl
set_option maxRecDepth 100000 in
theorem mo_144 : (MT[144]?).map (fun e => e.2.1) = some 12 := rfl
set_option maxRecDepth 100000 in
theorem mo_145 : (MT[145]?).map (fun e => e.2.1) = some 12 := rfl
set_option maxRecDepth 100000 in
theorem mo_146 : (MT[146]?).map (fun e => e.2.1) = some 12 := rfl
set_option maxRecDepth 100000 in
theorem mo_147 : (MT[147]?).map (fun e => e.2.1) = some 12 := rfl
set_option maxRecDepth 100000 in
theorem mo_148 : (MT[148]?).map (fun e => e.2.1) = some 12 := rfl
set_option maxRecDepth 100000 in
theorem mo_149 : (MT[149]?).map (fun e => e.2.1) = some 12 := rfl
set_option maxRecDepth 100000 in
theorem mo_150 : (MT[150]?).map (fun e => e.2.1) = some 12 := rfl
set_option maxRecDepth 100000 in
theorem mo_151 : (MT[151]?).map (fun e => e.2.1) = some 12 := rfl
set_option maxRecDepth 100000 in
theorem mo_152 : (MT[152]?).map (fun e => e.2.1) = some 12 := rfl
set_option maxRecDepth 100000 in
theorem mo_153 : (MT[153]?).map (fun e => e.2.1) = some 12 := rfl
set_option maxRecDepth 100000 in
theorem mo_154 : (MT[154]?).map (fun e => e.2.1) = some 12 := rfl
set_option maxRecDepth 100000 in
theorem mo_155 : (MT[155]?).map (fun e => e.2.1) = some 12 := rfl
set_option maxRecDepth 100000 in
theorem mo_156 : (MT[156]?).map (fun e => e.2.1) = some 12 := rfl
set_option maxRecDepth 100000 in
theorem mo_157 : (MT[157]?).map (fun e => e.2.1) = some 12 := rfl
set_option maxRecDepth 100000 in
theorem mo_158 : (MT[158]?).map (fun e => e.2.1) = some 12 := rfl
set_option maxRecDepth 100000 in
theorem mo_159 : (MT[159]?).map (fun e => e.2.1) = some 12 := rfl
set_option maxRecDepth 100000 in
theorem mo_160 : (MT[160]?).map (fun e => e.2.1) = some 12 := rfl
set_option maxRecDepth 100000 in
theorem mo_161 : (MT[161]?).map (fun e => e.2.1) = some 12 := rfl
set_option maxRecDepth 100000 in
theorem mo_162 : (MT[162]?).map (fun e => e.2.1) = some 12 := rfl
set_option maxRecDepth 100000 in
theorem mo_163 : (MT[163]?).map (fun e => e.2.1) = some 12 := rfl
set_option maxRecDepth 100000 in
theorem mo_164 : (MT[164]?).map (fun e => e.2.1) = some 12 := rfl
set_option maxRecDepth 100000 in
theorem mo_165 : (MT[165]?).map (fun e => e.2.1) = some 12 := rfl
set_option maxRecDepth 100000 in
theorem mo_166 : (MT[166]?).map (fun e => e.2.1) = some 12 := rfl
set_option maxRecDepth 100000 in
theorem mo_167 : (MT[167]?).map (fun e => e.2.1) = some 12 := rfl
set_option maxRecDepth 100000 in
theorem mo_168 : (MT[168]?).map (fun e => e.2.1) = some 12 := rfl
set_option maxRecDepth 100000 in
theorem mo_169 : (MT[169]?).map (fun e => e.2.1) = some 12 := rfl
set_option maxRecDepth 100000 in
theorem mo_170 : (MT[170]?).map (fun e => e.2.1) = some 12 := rfl
set_option maxRecDepth 100000 in
theorem mo_171 : (MT[171]?).map (fun e => e.2.1) = some 12 := rfl
set_option maxRecDepth 100000 in
theorem mo_172 : (MT[172]?).map (fun e => e.2.1) = some 12 := rfl
set_option maxRecDepth 100000 in
theorem mo_173 : (MT[173]?).map (fun e => e.2.1) = some 12 := rfl
set_option maxRecDepth 100000 in
theorem mo_174 : (MT[174]?).map (fun e => e.2.1) = some 12 := rfl
set_option maxRecDepth 100000 in
theorem mo_175 : (MT[175]?).map (fun e => e.2.1) = some 12 := rfl
set_option maxRecDepth 100000 in
theorem mo_176 : (MT[176]?).map (fun e => e.2.1) = some 12 := rfl
set_option maxRecDepth 100000 in
theorem mo_177 : (MT[177]?).map (fun e => e.2.1) = some 12 := rfl
set_option maxRecDepth 100000 in
theorem mo_178 : (MT[178]?).map (fun e => e.2.1) = some 12 := rfl
set_option maxRecDepth 100000 in
theorem mo_179 : (MT[179]?).map (fun e => e.2.1) = some 12 := rfl
set_option maxRecDepth 100000 in
theorem mo_180 : (MT[180]?).map (fun e => e.2.1) = some 12 := rfl
set_option maxRecDepth 100000 in
theorem mo_181 : (MT[181]?).map (fun e => e.2.1) = some 12 := rfl
set_option maxRecDepth 100000 in
theorem mo_182 : (MT[182]?).map (fun e => e.2.1) = some 12 := rfl
set_option maxRecDepth 100000 in
theorem mo_183 : (MT[183]?).map (fun e => e.2.1) = some 12 := rfl
set_option maxRecDepth 100000 in
theorem mo_184 : (MT[184]?).map (fun e => e.2.1) = some 12 := rfl
set_option maxRecDepth 100000 in
theorem mo_185 : (MT[185]?).map (fun e => e.2.1) = some 12 := rfl
set_option maxRecDepth 100000 in
theorem mo_187 : (MT[187]?).map (fun e => e.2.1) = some 12 := rfl
set_option maxRecDepth 100000 in
theorem mo_188 : (MT[188]?).map (fun e => e.2.1) = some 12 := rfl
set_option maxRecDepth 100000 in
theorem mo_189 : (MT[189]?).map (fun e => e.2.1) = some 12 := rfl
set_option maxRecDepth 100000 in
theorem mo_190 : (MT[190]?).map (fun e => e.2.1) = some 12 := rfl
set_option maxRecDepth 100000 in
theorem mo_191 : (MT[191]?).map (fun e => e.2.1) = some 12 := rfl
set_option maxRecDepth 100000 in
theorem mo_192 : (MT[192]?).map (fun e => e.2.1) = some 12 := rfl
set_option maxRecDepth 100000 in
theorem mo_193 : (MT[193]?).map (fun e => e.2.1) = some 12 := rfl
set_option maxRecDepth 100000 in
theorem mo_194 : (MT[194]?).map (fun e => e.2.1) = some 12 := rfl
set_option maxRecDepth 100000 in
theorem mo_195 : (MT[195]?).map (fun e => e.2.1) = some 12 := rfl
set_option maxRecDepth 100000 in
theorem mo_196 : (MT[196]?).map (fun e => e.2.1) = some 12 := rfl
set_option maxRecDepth 100000 in
theorem mo_197 : (MT[197]?).map (fun e => e.2.1) = some 12 := rfl
set_option maxRecDepth 100000 in
theorem mo_198 : (MT[198]?).map (fun e => e.2.1) = some 12 := rfl
set_option maxRecDepth 100000 in
theorem mo_199 : (MT[199]?).map (fun e => e.2.1) = some 12 := rfl
set_option maxRecDepth 100000 in
theorem mo_200 : (MT[200]?).map (fun e => e.2.1) = some 12 := rfl
set_option maxRecDepth 100000 in
theorem mo_201 : (MT[201]?).map (fun e => e.2.1) = some 12 := rfl
set_option maxRecDepth 100000 in
theorem mo_202 : (MT[202]?).map (fun e => e.2.1) = some 12 := rfl
set_option maxRecDepth 100000 in
theorem mo_203 : (MT[203]?).map (fun e => e.2.1) = some 12 := rfl
set_option maxRecDepth 100000 in
theorem mo_204 : (MT[204]?).map (fun e => e.2.1) = some 12 := rfl
set_option maxRecDepth 100000 in
theorem mo_205 : (MT[205]?).map (fun e => e.2.1) = some 12 := rfl
set_option maxRecDepth 100000 in
theorem mo_206 : (MT[206]?).map (fun e => e.2.1) = some 12 := rfl
set_option maxRecDepth 100000 in
theorem mo_207 : (MT[207]?).map (fun e => e.2.1) = some 12 := rfl
set_option maxRecDepth 100000 in
theorem mo_208 : (MT[208]?).map (fun e => e.2.1) = some 12 := rfl
set_option maxRecDepth 100000 in
theorem mo_209 : (MT[209]?).map (fun e => e.2.1) = some 12 := rfl
set_option maxRecDepth 100000 in
theorem mo_210 : (MT[210]?).map (fun e => e.2.1) = some 12 := rfl
set_option maxRecDepth 100000 in
theorem mo_211 : (MT[211]?).map (fun e => e.2.1) = some 12 := rfl
set_option maxRecDepth 100000 in
theorem mo_214 : (MT[214]?).map (fun e => e.2.1) = some 12 := rfl
set_option maxRecDepth 100000 in
theorem mo_215 : (MT[215]?).map (fun e => e.2.1) = some 12 := rfl
set_option maxRecDepth 100000 in
theorem mo_216 : (MT[216]?).map (fun e => e.2.1) = some 12 := rfl
set_option maxRecDepth 100000 in
theorem mo_217 : (MT[217]?).map (fun e => e.2.1) = some 12 := rfl
set_option maxRecDepth 100000 in
theorem mo_218 : (MT[218]?).map (fun e => e.2.1) = some 12 := rfl
set_option maxRecDepth 100000 in
theorem mo_219 : (MT[219]?).map (fun e => e.2.1) = some 12 := rfl
set_option maxRecDepth 100000 in
theorem mo_220 : (MT[220]?).map (fun e => e.2.1) = some 12 := rfl
set_option maxRecDepth 100000 in
theorem mo_221 : (MT[221]?).map (fun e => e.2.1) = some 12 := rfl
set_option maxRecDepth 100000 in
theorem mo_222 : (MT[222]?).map (fun e => e.2.1) = some 12 := rfl
set_option maxRecDepth 100000 in
theorem mo_223 : (MT[223]?).map (fun e => e.2.1) = some 12 := rfl
set_option maxRecDepth 100000 in
theorem mo_224 : (MT[224]?).map (fun e => e.2.1) = some 12 := rfl
set_option maxRecDepth 100000 in
theorem mo_225 : (MT[225]?).map (fun e => e.2.1) = some 12 := rfl
set_option maxRecDepth 100000 in
theorem mo_226 : (MT[226]?).map (fun e => e.2.1) = some 12 := rfl
set_option maxRecDepth 100000 in
theorem mo_227 : (MT[227]?).map (fun e => e.2.1) = some 12 := rfl
set_option maxRecDepth 100000 in
theorem mo_228 : (MT[228]?).map (fun e => e.2.1) = some 12 := rfl
set_option maxRecDepth 100000 in
theorem mo_229 : (MT[229]?).map (fun e => e.2.1) = some 12 := rfl
set_option maxRecDepth 100000 in
theorem mo_230 : (MT[230]?).map (fun e => e.2.1) = some 12 := rfl
set_option maxRecDepth 100000 in
theorem mo_231 : (MT[231]?).map (fun e => e.2.1) = some 12 := rfl
set_option maxRecDepth 100000 in
theorem mo_232 : (MT[232]?).map (fun e => e.2.1) = some 12 := rfl
set_option maxRecDepth 100000 in
theorem mo_233 : (MT[233]?).map (fun e => e.2.1) = some 12 := rfl
set_option maxRecDepth 100000 in
theorem mo_234 : (MT[234]?).map (fun e => e.2.1) = some 12 := rfl
set_option maxRecDepth 100000 in
theorem mo_235 : (MT[235]?).map (fun e => e.2.1) = some 12 := rfl
set_option maxRecDepth 100000 in
theorem mo_236 : (MT[236]?).map (fun e => e.2.1) = some 12 := rfl
set_option maxRecDepth 100000 in
theorem mo_237 : (MT[237]?).map (fun e => e.2.1) = some 12 := rfl
set_option maxRecDepth 100000 in
theorem mo_238 : (MT[238]?).map (fun e => e.2.1) = some 12 := rfl
set_option maxRecDepth 100000 in
theorem mo_239 : (MT[239]?).map (fun e => e.2.1) = some 12 := rfl
set_option maxRecDepth 100000 in
theorem mo_240 : (MT[240]?).map (fun e => e.2.1) = some 12 := rfl
set_option maxRecDepth 100000 in
theorem mo_241 : (MT[241]?).map (fun e => e.2.1) = some 12 := rfl
set_option maxRecDepth 100000 in
theorem mo_243 : (MT[243]?).map (fun e => e.2.1) = some 12 := rfl
set_option maxRecDepth 100000 in
theorem mo_244 : (MT[244]?).map (fun e => e.2.1) = some 12 := rfl
set_option maxRecDepth 100000 in
theorem mo_245 : (MT[245]?).map (fun e => e.2.1) = some 12 := rfl
set_option maxRecDepth 100000 in
theorem mo_246 : (MT[246]?).map (fun e => e.2.1) = some 12 := rfl
set_option maxRecDepth 100000 in
theorem mo_247 : (MT[247]?).map (fun e => e.2.1) = some 12 := rfl
set_option maxRecDepth 100000 in
theorem mo_248 : (MT[248]?).map (fun e => e.2.1) = some 12 := rfl
set_option maxRecDepth 100000 in
theorem mo_249 : (MT[249]?).map (fun e => e.2.1) = some 12 := rfl
set_option maxRecDepth 100000 in
theorem mo_250 : (MT[250]?).map (fun e => e.2.1) = some 12 := rfl
set_option maxRecDepth 100000 in
theorem mo_251 : (MT[251]?).map (fun e => e.2.1) = some 12 := rfl
set_option maxRecDepth 100000 in
theorem mo_252 : (MT[252]?).map (fun e => e.2.1) = some 12 := rfl
set_option maxRecDepth 100000 in
theorem mo_253 : (MT[253]?).map (fun e => e.2.1) = some 12 := rfl
set_option maxRecDepth 100000 in
theorem mo_254 : (MT[254]?).map (fun e => e.2.1) = some 12 := rfl
set_option maxRecDepth 100000 in
theorem mo_255 : (MT[255]?).map (fun e => e.2.1) = some 12 := rfl
set_option maxRecDepth 100000 in
theorem mo_256 : (MT[256]?).map (fun e => e.2.1) = some 12 := rfl
set_option maxRecDepth 100000 in
theorem mo_259 : (MT[259]?).map (fun e => e.2.1) = some 12 := rfl
set_option maxRecDepth 100000 in
theorem mo_260 : (MT[260]?).map (fun e => e.2.1) = some 12 := rfl
set_option maxRecDepth 100000 in
theorem mo_261 : (MT[261]?).map (fun e => e.2.1) = some 12 := rfl
set_option maxRecDepth 100000 in
theorem mo_262 : (MT[262]?).map (fun e => e.2.1) = some 12 := rfl
set_option maxRecDepth 100000 in
theorem mo_263 : (MT[263]?).map (fun e => e.2.1) = some 12 := rfl
set_option maxRecDepth 100000 in
theorem mo_264 : (MT[264]?).map (fun e => e.2.1) = some 12 := rfl
set_option maxRecDepth 100000 in
theorem mo_265 : (MT[265]?).map (fun e => e.2.1) = some 12 := rfl
set_option maxRecDepth 100000 in
theorem mo_266 : (MT[266]?).map (fun e => e.2.1) = some 12 := rfl
set_option maxRecDepth 100000 in
theorem mo_268 : (MT[268]?).map (fun e => e.2.1) = some 12 := rfl
set_option maxRecDepth 100000 in
theorem mo_269 : (MT[269]?).map (fun e => e.2.1) = some 12 := rfl
set_option maxRecDepth 100000 in
theorem mo_270 : (MT[270]?).map (fun e => e.2.1) = some 12 := rfl
set_option maxRecDepth 100000 in
theorem mo_271 : (MT[271]?).map (fun e => e.2.1) = some 12 := rfl
set_option maxRecDepth 100000 in
theorem mo_272 : (MT[272]?).map (fun e => e.2.1) = some 12 := rfl
set_option maxRecDepth 100000 in
theorem mo_273 : (MT[273]?).map (fun e => e.2.1) = some 12 := rfl
set_option maxRecDepth 100000 in
theorem mo_274 : (MT[274]?).map (fun e => e.2.1) = some 12 := rfl
set_option maxRecDepth 100000 in
theorem mo_282 : (MT[282]?).map (fun e => e.2.1) = some 15 := rfl
set_option maxRecDepth 100000 in
theorem mo_283 : (MT[283]?).map (fun e => e.2.1) = some 15 := rfl
set_option maxRecDepth 100000 in
theorem mo_284 : (MT[284]?).map (fun e => e.2.1) = some 15 := rfl
set_option maxRecDepth 100000 in
theorem mo_285 : (MT[285]?).map (fun e => e.2.1) = some 15 := rfl
