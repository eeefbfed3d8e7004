/-! printed by wip/whole/gen_tables.py: the words behind the tables -/
def m_cstL : List (Nat × Nat × Nat × Nat) := [(2, 66, 1000000, 968), (5, 100, 50000, 692), (6, 347, 50000, 1404)]
def m_cslL : List (Nat × Nat × Nat × Nat × Nat) := [(4, 80, 0, 10, 333), (4, 82, 0, 2147483648, 334), (4, 88, 0, 2147483647, 338), (6, 105, 1, 0, 1215), (6, 107, 0, 27, 1216), (6, 109, 0, 96, 1217), (6, 111, 0, 176, 1218), (6, 113, 0, 8903, 1219), (6, 115, 0, 10502465, 1220), (6, 117, 0, 247162, 1221), (6, 119, 0, 249, 1222), (6, 121, 0, 107681, 1223), (6, 123, 0, 12387497, 1224), (6, 125, 0, 261347000, 1225), (6, 127, 0, 7054768229, 1226), (6, 129, 0, 407354, 1227), (6, 131, 0, 3217595, 1228), (6, 136, 0, 2147483647, 1233), (6, 138, 0, 10, 1234), (6, 140, 0, 48, 1235)]
def m_strL : List (Nat × Nat × String × Nat) := [(4, 90, "fn", 266), (4, 96, "if", 319), (4, 98, "let", 320), (4, 100, "load", 321), (4, 102, "else", 322), (4, 104, "true", 323), (4, 106, "store", 324), (4, 108, "while", 325), (4, 110, "false", 326), (4, 112, "return", 327), (4, 114, "require", 328), (0, 187, "the text has a fault", 411), (5, 46, "a byte is above 127", 620), (5, 53, "more than 600 signs", 636), (5, 60, "the text has not so many signs", 654), (5, 81, "there is no contract", 665), (5, 93, "there is no such function", 677), (5, 101, "gas is not 0 .. 50000", 693), (5, 123, "what is not 0, 1 or 2", 1023)]
/-- owner, index, method, place of the methodLink -/
def m_lnkL : List (Nat × Nat × Nat × Nat) := [(0, 45, 61, 236), (0, 49, 31, 345), (0, 52, 1, 349), (0, 56, 2, 357), (0, 59, 5, 453), (0, 62, 11, 481), (0, 68, 34, 513), (0, 77, 3, 361), (0, 80, 4, 438), (0, 84, 32, 449), (0, 87, 6, 457), (0, 90, 7, 461), (0, 93, 8, 465), (0, 96, 10, 473), (0, 100, 33, 477), (0, 103, 12, 485), (0, 106, 13, 489), (0, 109, 14, 493), (0, 112, 25, 555), (0, 115, 26, 559), (0, 118, 27, 563), (0, 121, 29, 571), (0, 124, 30, 575), (0, 127, 15, 497), (0, 130, 9, 469), (0, 133, 21, 537), (0, 136, 18, 509), (0, 140, 28, 567), (0, 143, 37, 551), (0, 149, 73, 353), (0, 152, 16, 501), (0, 155, 23, 545), (0, 158, 24, 548), (0, 162, 17, 505), (0, 165, 76, 517), (0, 168, 19, 521), (0, 171, 20, 533), (0, 174, 22, 541), (0, 177, 35, 525), (0, 180, 75, 442), (0, 184, 74, 365), (1, 37, 36, 529), (2, 54, 35, 703), (2, 58, 43, 704), (2, 62, 45, 712), (2, 67, 40, 969), (2, 70, 41, 973), (2, 73, 48, 977), (2, 76, 49, 980), (2, 80, 44, 708), (2, 83, 50, 984), (2, 86, 46, 956), (2, 90, 47, 960), (2, 93, 56, 988), (2, 96, 51, 989), (2, 99, 52, 997), (2, 102, 53, 1001), (2, 105, 54, 1005), (2, 110, 55, 1009), (2, 114, 59, 993), (2, 117, 155, 716), (2, 123, 39, 964), (3, 31, 57, 594), (4, 40, 62, 240), (4, 44, 64, 248), (4, 55, 63, 244), (4, 58, 65, 252), (4, 62, 66, 255), (4, 65, 68, 262), (4, 68, 67, 259), (4, 71, 70, 329), (4, 74, 71, 339), (4, 77, 72, 342), (4, 92, 69, 267), (5, 56, 81, 643), (5, 62, 0, 231), (5, 73, 38, 579), (5, 87, 36, 667), (5, 96, 35, 684), (5, 107, 58, 694), (5, 112, 42, 699), (5, 116, 60, 1012), (5, 125, 56, 590), (6, 89, 88, 1180), (6, 93, 90, 1188), (6, 97, 93, 1199), (6, 101, 95, 1207), (6, 151, 99, 1240), (6, 155, 94, 1203), (6, 158, 96, 1211), (6, 162, 97, 1229), (6, 165, 98, 1236), (6, 174, 100, 1244), (6, 187, 92, 1195), (6, 190, 103, 1256), (6, 199, 113, 1296), (6, 205, 114, 1300), (6, 208, 112, 1292), (6, 211, 126, 1348), (6, 214, 107, 1272), (6, 217, 108, 1276), (6, 221, 109, 1280), (6, 225, 133, 1376), (6, 228, 134, 1380), (6, 231, 135, 1384), (6, 234, 117, 1312), (6, 238, 115, 1304), (6, 241, 116, 1308), (6, 244, 121, 1328), (6, 247, 123, 1336), (6, 250, 125, 1344), (6, 253, 127, 1352), (6, 256, 128, 1356), (6, 259, 129, 1360), (6, 262, 130, 1364), (6, 265, 131, 1368), (6, 268, 120, 1324), (6, 272, 122, 1332), (6, 275, 110, 1284), (6, 278, 111, 1288), (6, 281, 106, 1268), (6, 284, 118, 1316), (6, 287, 102, 1252), (6, 290, 104, 1260), (6, 293, 105, 1264), (6, 296, 119, 1320), (6, 299, 124, 1340), (6, 302, 132, 1372), (6, 305, 101, 1248), (6, 317, 146, 1427), (6, 324, 142, 1413), (6, 327, 140, 1405), (6, 330, 145, 1424), (6, 334, 137, 1430), (6, 337, 141, 1409), (6, 340, 147, 1431), (6, 344, 148, 1435), (6, 355, 143, 1417), (6, 358, 144, 1420), (7, 7, 80, 607), (7, 17, 82, 650), (7, 21, 83, 660), (7, 28, 84, 688), (7, 32, 85, 1019), (7, 39, 150, 602), (7, 44, 87, 1176), (7, 45, 86, 1172), (7, 49, 151, 647), (7, 52, 89, 1184), (7, 53, 77, 227), (7, 56, 91, 1191), (7, 57, 152, 655), (7, 59, 136, 1388), (7, 60, 153, 685), (7, 63, 139, 1400), (7, 64, 154, 1016), (7, 66, 149, 1439), (7, 67, 78, 586), (7, 70, 137, 1392), (7, 71, 79, 598), (7, 74, 138, 1396), (8, 13, 156, 719)]
set_option maxRecDepth 40000 in
theorem m_cw0 : lw_tbl[334]? = some (Cond.codeWith mY0 prog_2_method_2_code 4 (some .int) [(26, 75, 78, 72)]) := rfl
set_option maxRecDepth 40000 in
theorem m_cw1 : lw_tbl[452]? = some (Cond.code mY1 prog_2_method_23_code 1 (some .int)) := rfl
set_option maxRecDepth 40000 in
theorem m_cw2 : lw_tbl[460]? = some (Cond.code mY2 prog_2_method_3_code 2 none) := rfl
set_option maxRecDepth 40000 in
theorem m_cw3 : lw_tbl[464]? = some (Cond.code mY3 prog_2_method_32_code 2 none) := rfl
set_option maxRecDepth 40000 in
theorem m_cw4 : lw_tbl[541]? = some (Cond.code mY4 prog_2_method_31_code 3 (some .int)) := rfl
set_option maxRecDepth 40000 in
theorem m_cw5 : lw_tbl[556]? = some (Cond.code mY5 prog_2_method_4_code 2 none) := rfl
set_option maxRecDepth 40000 in
theorem m_cw6 : lw_tbl[560]? = some (Cond.code mY6 prog_2_method_24_code 2 none) := rfl
set_option maxRecDepth 40000 in
theorem m_cw7 : lw_tbl[564]? = some (Cond.code mY7 prog_2_method_5_code 1 none) := rfl
set_option maxRecDepth 40000 in
theorem m_cw8 : lw_tbl[568]? = some (Cond.code mY8 prog_2_method_27_code 1 none) := rfl
set_option maxRecDepth 40000 in
theorem m_cw9 : lw_tbl[572]? = some (Cond.code mY9 prog_2_method_30_code 3 (some .int)) := rfl
set_option maxRecDepth 40000 in
theorem m_cw10 : lw_tbl[576]? = some (Cond.code mY10 prog_2_method_28_code 3 none) := rfl
set_option maxRecDepth 40000 in
theorem m_cw11 : lw_tbl[584]? = some (Cond.code mY11 prog_2_method_6_code 4 none) := rfl
set_option maxRecDepth 40000 in
theorem m_cw12 : lw_tbl[588]? = some (Cond.code mY12 prog_2_method_25_code 3 (some .int)) := rfl
set_option maxRecDepth 40000 in
theorem m_cw13 : lw_tbl[592]? = some (Cond.code mY13 prog_2_method_7_code 2 none) := rfl
set_option maxRecDepth 40000 in
theorem m_cw14 : lw_tbl[596]? = some (Cond.code mY14 prog_2_method_8_code 4 none) := rfl
set_option maxRecDepth 40000 in
theorem m_cw15 : lw_tbl[600]? = some (Cond.code mY15 prog_2_method_15_code 11 (some .int)) := rfl
set_option maxRecDepth 40000 in
theorem m_cw16 : lw_tbl[604]? = some (Cond.code mY16 prog_2_method_18_code 5 (some .int)) := rfl
set_option maxRecDepth 40000 in
theorem m_cw17 : lw_tbl[608]? = some (Cond.code mY17 prog_2_method_19_code 6 (some .int)) := rfl
set_option maxRecDepth 40000 in
theorem m_cw18 : lw_tbl[612]? = some (Cond.code mY18 prog_2_method_26_code 4 none) := rfl
set_option maxRecDepth 40000 in
theorem m_cw19 : lw_tbl[624]? = some (Cond.code mY19 prog_2_method_22_code 8 (some .int)) := rfl
set_option maxRecDepth 40000 in
theorem m_cw20 : lw_tbl[636]? = some (Cond.code mY20 prog_2_method_21_code 3 (some .int)) := rfl
set_option maxRecDepth 40000 in
theorem m_cw21 : lw_tbl[640]? = some (Cond.code mY21 prog_2_method_29_code 2 (some .int)) := rfl
set_option maxRecDepth 40000 in
theorem m_cw22 : lw_tbl[644]? = some (Cond.code mY22 prog_2_method_20_code 4 (some .int)) := rfl
set_option maxRecDepth 40000 in
theorem m_cw23 : lw_tbl[647]? = some (Cond.code mY23 prog_2_method_16_code 1 (some .int)) := rfl
set_option maxRecDepth 40000 in
theorem m_cw24 : lw_tbl[650]? = some (Cond.code mY24 prog_2_method_17_code 3 (some .int)) := rfl
set_option maxRecDepth 40000 in
theorem m_cw25 : lw_tbl[658]? = some (Cond.code mY25 prog_2_method_9_code 5 none) := rfl
set_option maxRecDepth 40000 in
theorem m_cw26 : lw_tbl[662]? = some (Cond.code mY26 prog_2_method_10_code 4 none) := rfl
set_option maxRecDepth 40000 in
theorem m_cw27 : lw_tbl[666]? = some (Cond.code mY27 prog_2_method_11_code 4 none) := rfl
set_option maxRecDepth 40000 in
theorem m_cw28 : lw_tbl[670]? = some (Cond.code mY28 prog_2_method_13_code 3 (some .int)) := rfl
set_option maxRecDepth 40000 in
theorem m_cw29 : lw_tbl[674]? = some (Cond.code mY29 prog_2_method_12_code 4 none) := rfl
set_option maxRecDepth 40000 in
theorem m_cw30 : lw_tbl[678]? = some (Cond.code mY30 prog_2_method_14_code 4 none) := rfl
set_option maxRecDepth 40000 in
theorem m_cw31 : lw_tbl[448]? = some (Cond.code mY31 prog_3_method_2_code 1 none) := rfl
set_option maxRecDepth 40000 in
theorem m_cw32 : lw_tbl[552]? = some (Cond.code mY32 prog_3_method_4_code 1 none) := rfl
set_option maxRecDepth 40000 in
theorem m_cw33 : lw_tbl[580]? = some (Cond.code mY33 prog_3_method_5_code 1 none) := rfl
set_option maxRecDepth 40000 in
theorem m_cw34 : lw_tbl[616]? = some (Cond.code mY34 prog_3_method_9_code 3 (some .int)) := rfl
set_option maxRecDepth 40000 in
theorem m_cw35 : lw_tbl[628]? = some (Cond.code mY35 prog_3_method_7_code 2 (some .int)) := rfl
set_option maxRecDepth 40000 in
theorem m_cw36 : lw_tbl[632]? = some (Cond.code mY36 prog_3_method_6_code 2 (some .boolean)) := rfl
set_option maxRecDepth 40000 in
theorem m_cw37 : lw_tbl[654]? = some (Cond.code mY37 prog_3_method_10_code 2 none) := rfl
set_option maxRecDepth 40000 in
theorem m_cw38 : lw_tbl[682]? = some (Cond.code mY38 prog_3_method_3_code 2 none) := rfl
set_option maxRecDepth 40000 in
theorem m_cw39 : lw_tbl[1067]? = some (Cond.code mY39 prog_3_method_8_code 2 (some .int)) := rfl
set_option maxRecDepth 40000 in
theorem m_cw40 : lw_tbl[1072]? = some (Cond.code mY40 prog_3_method_11_code 2 (some .int)) := rfl
set_option maxRecDepth 40000 in
theorem m_cw41 : lw_tbl[1076]? = some (Cond.code mY41 prog_3_method_12_code 2 (some .int)) := rfl
set_option maxRecDepth 40000 in
theorem m_cw42 : lw_tbl[802]? = some (Cond.code mY42 prog_4_method_2_code 9 (some .int)) := rfl
set_option maxRecDepth 40000 in
theorem m_cw43 : lw_tbl[807]? = some (Cond.code mY43 prog_4_method_3_code 5 none) := rfl
set_option maxRecDepth 40000 in
theorem m_cw44 : lw_tbl[811]? = some (Cond.code mY44 prog_4_method_14_code 2 none) := rfl
set_option maxRecDepth 40000 in
theorem m_cw45 : lw_tbl[815]? = some (Cond.code mY45 prog_4_method_10_code 4 none) := rfl
set_option maxRecDepth 40000 in
theorem m_cw46 : lw_tbl[1059]? = some (Cond.code mY46 prog_4_method_15_code 1 (some .int)) := rfl
set_option maxRecDepth 40000 in
theorem m_cw47 : lw_tbl[1063]? = some (Cond.code mY47 prog_4_method_13_code 4 none) := rfl
set_option maxRecDepth 40000 in
theorem m_cw48 : lw_tbl[1079]? = some (Cond.code mY48 prog_4_method_4_code 1 (some .int)) := rfl
set_option maxRecDepth 40000 in
theorem m_cw49 : lw_tbl[1083]? = some (Cond.code mY49 prog_4_method_5_code 3 none) := rfl
set_option maxRecDepth 40000 in
theorem m_cw50 : lw_tbl[1087]? = some (Cond.code mY50 prog_4_method_12_code 3 (some .int)) := rfl
set_option maxRecDepth 40000 in
theorem m_cw51 : lw_tbl[1092]? = some (Cond.code mY51 prog_4_method_9_code 3 none) := rfl
set_option maxRecDepth 40000 in
theorem m_cw52 : lw_tbl[1100]? = some (Cond.code mY52 prog_4_method_11_code 2 none) := rfl
set_option maxRecDepth 40000 in
theorem m_cw53 : lw_tbl[1104]? = some (Cond.code mY53 prog_4_method_6_code 4 none) := rfl
set_option maxRecDepth 40000 in
theorem m_cw54 : lw_tbl[1108]? = some (Cond.code mY54 prog_4_method_7_code 4 none) := rfl
set_option maxRecDepth 40000 in
theorem m_cw55 : lw_tbl[1111]? = some (Cond.code mY55 prog_4_method_8_code 3 (some .int)) := rfl
set_option maxRecDepth 40000 in
theorem m_cw56 : lw_tbl[693]? = some (Cond.code mY56 prog_6_method_2_code 3 (some .int)) := rfl
set_option maxRecDepth 40000 in
theorem m_cw57 : lw_tbl[697]? = some (Cond.code mY57 prog_6_method_6_code 3 (some .int)) := rfl
set_option maxRecDepth 40000 in
theorem m_cw58 : lw_tbl[797]? = some (Cond.code mY58 prog_6_method_4_code 1 none) := rfl
set_option maxRecDepth 40000 in
theorem m_cw59 : lw_tbl[1096]? = some (Cond.code mY59 prog_6_method_3_code 4 (some .boolean)) := rfl
set_option maxRecDepth 40000 in
theorem m_cw60 : lw_tbl[1115]? = some (Cond.code mY60 prog_6_method_5_code 1 none) := rfl
set_option maxRecDepth 40000 in
theorem m_cw61 : lw_tbl[339]? = some (Cond.code mY61 prog_7_method_2_code 7 none) := rfl
set_option maxRecDepth 40000 in
theorem m_cw62 : lw_tbl[343]? = some (Cond.code mY62 prog_7_method_10_code 3 (some .int)) := rfl
set_option maxRecDepth 40000 in
theorem m_cw63 : lw_tbl[347]? = some (Cond.code mY63 prog_7_method_13_code 2 (some .int)) := rfl
set_option maxRecDepth 40000 in
theorem m_cw64 : lw_tbl[351]? = some (Cond.code mY64 prog_7_method_7_code 4 (some .int)) := rfl
set_option maxRecDepth 40000 in
theorem m_cw65 : lw_tbl[354]? = some (Cond.code mY65 prog_7_method_14_code 1 (some .boolean)) := rfl
set_option maxRecDepth 40000 in
theorem m_cw66 : lw_tbl[358]? = some (Cond.code mY66 prog_7_method_8_code 3 (some .int)) := rfl
set_option maxRecDepth 40000 in
theorem m_cw67 : lw_tbl[361]? = some (Cond.code mY67 prog_7_method_15_code 1 (some .boolean)) := rfl
set_option maxRecDepth 40000 in
theorem m_cw68 : lw_tbl[365]? = some (Cond.code mY68 prog_7_method_11_code 3 (some .int)) := rfl
set_option maxRecDepth 40000 in
theorem m_cw69 : lw_tbl[370]? = some (Cond.code mY69 prog_7_method_12_code 4 (some .boolean)) := rfl
set_option maxRecDepth 40000 in
theorem m_cw70 : lw_tbl[432]? = some (Cond.code mY70 prog_7_method_9_code 5 (some .int)) := rfl
set_option maxRecDepth 40000 in
theorem m_cw71 : lw_tbl[441]? = some (Cond.code mY71 prog_7_method_16_code 2 (some .int)) := rfl
set_option maxRecDepth 40000 in
theorem m_cw72 : lw_tbl[444]? = some (Cond.code mY72 prog_7_method_17_code 1 (some .int)) := rfl
set_option maxRecDepth 40000 in
theorem m_cw73 : lw_tbl[456]? = some (Cond.code mY73 prog_7_method_3_code 2 (some .int)) := rfl
set_option maxRecDepth 40000 in
theorem m_cw74 : lw_tbl[468]? = some (Cond.code mY74 prog_7_method_4_code 2 (some .int)) := rfl
set_option maxRecDepth 40000 in
theorem m_cw75 : lw_tbl[545]? = some (Cond.code mY75 prog_7_method_6_code 7 (some .boolean)) := rfl
set_option maxRecDepth 40000 in
theorem m_cw76 : lw_tbl[620]? = some (Cond.code mY76 prog_7_method_5_code 2 (some .int)) := rfl
set_option maxRecDepth 40000 in
theorem m_cw77 : lw_tbl[330]? = some (Cond.code mY77 prog_1_method_4_code 2 (some .int)) := rfl
set_option maxRecDepth 40000 in
theorem m_cw78 : lw_tbl[689]? = some (Cond.code mY78 prog_1_method_8_code 2 (some .int)) := rfl
set_option maxRecDepth 40000 in
theorem m_cw79 : lw_tbl[701]? = some (Cond.code mY79 prog_1_method_9_code 1 (some .int)) := rfl
set_option maxRecDepth 40000 in
theorem m_cw80 : lw_tbl[710]? = some (Cond.code mY80 prog_1_method_2_code 5 (some .int)) := rfl
set_option maxRecDepth 40000 in
theorem m_cw81 : lw_tbl[746]? = some (Cond.code mY81 prog_1_method_10_code 2 none) := rfl
set_option maxRecDepth 40000 in
theorem m_cw82 : lw_tbl[753]? = some (Cond.code mY82 prog_1_method_3_code 2 none) := rfl
set_option maxRecDepth 40000 in
theorem m_cw83 : lw_tbl[763]? = some (Cond.code mY83 prog_1_method_5_code 2 (some .int)) := rfl
set_option maxRecDepth 40000 in
theorem m_cw84 : lw_tbl[791]? = some (Cond.code mY84 prog_1_method_6_code 8 (some .int)) := rfl
set_option maxRecDepth 40000 in
theorem m_cw85 : lw_tbl[1122]? = some (Cond.code mY85 prog_1_method_7_code 2 (some .int)) := rfl
set_option maxRecDepth 40000 in
theorem m_cw86 : lw_tbl[1275]? = some (Cond.code mY86 prog_9_method_2_code 1 (some .int)) := rfl
set_option maxRecDepth 40000 in
theorem m_cw87 : lw_tbl[1279]? = some (Cond.code mY87 prog_9_method_5_code 6 (some .int)) := rfl
set_option maxRecDepth 40000 in
theorem m_cw88 : lw_tbl[1283]? = some (Cond.code mY88 prog_9_method_3_code 4 (some .boolean)) := rfl
set_option maxRecDepth 40000 in
theorem m_cw89 : lw_tbl[1287]? = some (Cond.code mY89 prog_9_method_6_code 2 none) := rfl
set_option maxRecDepth 40000 in
theorem m_cw90 : lw_tbl[1290]? = some (Cond.code mY90 prog_9_method_4_code 3 (some .boolean)) := rfl
set_option maxRecDepth 40000 in
theorem m_cw91 : lw_tbl[1294]? = some (Cond.code mY91 prog_9_method_51_code 2 (some .int)) := rfl
set_option maxRecDepth 40000 in
theorem m_cw92 : lw_tbl[1298]? = some (Cond.code mY92 prog_9_method_14_code 1 none) := rfl
set_option maxRecDepth 40000 in
theorem m_cw93 : lw_tbl[1302]? = some (Cond.code mY93 prog_9_method_7_code 2 (some .int)) := rfl
set_option maxRecDepth 40000 in
theorem m_cw94 : lw_tbl[1306]? = some (Cond.code mY94 prog_9_method_8_code 2 (some .boolean)) := rfl
set_option maxRecDepth 40000 in
theorem m_cw95 : lw_tbl[1310]? = some (Cond.code mY95 prog_9_method_9_code 2 (some .boolean)) := rfl
set_option maxRecDepth 40000 in
theorem m_cw96 : lw_tbl[1314]? = some (Cond.code mY96 prog_9_method_10_code 6 (some .int)) := rfl
set_option maxRecDepth 40000 in
theorem m_cw97 : lw_tbl[1332]? = some (Cond.code mY97 prog_9_method_11_code 3 none) := rfl
set_option maxRecDepth 40000 in
theorem m_cw98 : lw_tbl[1339]? = some (Cond.code mY98 prog_9_method_13_code 1 none) := rfl
set_option maxRecDepth 40000 in
theorem m_cw99 : lw_tbl[1343]? = some (Cond.code mY99 prog_9_method_12_code 5 none) := rfl
set_option maxRecDepth 40000 in
theorem m_cw100 : lw_tbl[1347]? = some (Cond.code mY100 prog_9_method_16_code 2 none) := rfl
set_option maxRecDepth 40000 in
theorem m_cw101 : lw_tbl[1351]? = some (Cond.code mY101 prog_9_method_50_code 2 none) := rfl
set_option maxRecDepth 40000 in
theorem m_cw102 : lw_tbl[1355]? = some (Cond.code mY102 prog_9_method_23_code 2 none) := rfl
set_option maxRecDepth 40000 in
theorem m_cw103 : lw_tbl[1359]? = some (Cond.code mY103 prog_9_method_15_code 2 none) := rfl
set_option maxRecDepth 40000 in
theorem m_cw104 : lw_tbl[1363]? = some (Cond.code mY104 prog_9_method_24_code 2 none) := rfl
set_option maxRecDepth 40000 in
theorem m_cw105 : lw_tbl[1367]? = some (Cond.code mY105 prog_9_method_49_code 4 none) := rfl
set_option maxRecDepth 40000 in
theorem m_cw106 : lw_tbl[1371]? = some (Cond.code mY106 prog_9_method_46_code 1 none) := rfl
set_option maxRecDepth 40000 in
theorem m_cw107 : lw_tbl[1375]? = some (Cond.code mY107 prog_9_method_18_code 2 none) := rfl
set_option maxRecDepth 40000 in
theorem m_cw108 : lw_tbl[1379]? = some (Cond.code mY108 prog_9_method_17_code 5 none) := rfl
set_option maxRecDepth 40000 in
theorem m_cw109 : lw_tbl[1383]? = some (Cond.code mY109 prog_9_method_22_code 3 none) := rfl
set_option maxRecDepth 40000 in
theorem m_cw110 : lw_tbl[1387]? = some (Cond.code mY110 prog_9_method_20_code 2 none) := rfl
set_option maxRecDepth 40000 in
theorem m_cw111 : lw_tbl[1391]? = some (Cond.code mY111 prog_9_method_47_code 4 none) := rfl
set_option maxRecDepth 40000 in
theorem m_cw112 : lw_tbl[1395]? = some (Cond.code mY112 prog_9_method_27_code 5 (some .int)) := rfl
set_option maxRecDepth 40000 in
theorem m_cw113 : lw_tbl[1399]? = some (Cond.code mY113 prog_9_method_25_code 6 (some .boolean)) := rfl
set_option maxRecDepth 40000 in
theorem m_cw114 : lw_tbl[1403]? = some (Cond.code mY114 prog_9_method_26_code 5 (some .int)) := rfl
set_option maxRecDepth 40000 in
theorem m_cw115 : lw_tbl[1407]? = some (Cond.code mY115 prog_9_method_19_code 1 (some .int)) := rfl
set_option maxRecDepth 40000 in
theorem m_cw116 : lw_tbl[1411]? = some (Cond.code mY116 prog_9_method_35_code 3 none) := rfl
set_option maxRecDepth 40000 in
theorem m_cw117 : lw_tbl[1415]? = some (Cond.code mY117 prog_9_method_21_code 1 (some .int)) := rfl
set_option maxRecDepth 40000 in
theorem m_cw118 : lw_tbl[1419]? = some (Cond.code mY118 prog_9_method_48_code 4 none) := rfl
set_option maxRecDepth 40000 in
theorem m_cw119 : lw_tbl[1423]? = some (Cond.code mY119 prog_9_method_44_code 2 none) := rfl
set_option maxRecDepth 40000 in
theorem m_cw120 : lw_tbl[1427]? = some (Cond.code mY120 prog_9_method_43_code 6 none) := rfl
set_option maxRecDepth 40000 in
theorem m_cw121 : lw_tbl[1431]? = some (Cond.code mY121 prog_9_method_36_code 2 none) := rfl
set_option maxRecDepth 40000 in
theorem m_cw122 : lw_tbl[1435]? = some (Cond.code mY122 prog_9_method_45_code 9 none) := rfl
set_option maxRecDepth 40000 in
theorem m_cw123 : lw_tbl[1439]? = some (Cond.code mY123 prog_9_method_37_code 2 none) := rfl
set_option maxRecDepth 40000 in
theorem m_cw124 : lw_tbl[1443]? = some (Cond.code mY124 prog_9_method_42_code 4 none) := rfl
set_option maxRecDepth 40000 in
theorem m_cw125 : lw_tbl[1447]? = some (Cond.code mY125 prog_9_method_38_code 4 none) := rfl
set_option maxRecDepth 40000 in
theorem m_cw126 : lw_tbl[1451]? = some (Cond.code mY126 prog_9_method_28_code 4 none) := rfl
set_option maxRecDepth 40000 in
theorem m_cw127 : lw_tbl[1455]? = some (Cond.code mY127 prog_9_method_31_code 1 none) := rfl
set_option maxRecDepth 40000 in
theorem m_cw128 : lw_tbl[1459]? = some (Cond.code mY128 prog_9_method_32_code 2 none) := rfl
set_option maxRecDepth 40000 in
theorem m_cw129 : lw_tbl[1463]? = some (Cond.code mY129 prog_9_method_41_code 2 none) := rfl
set_option maxRecDepth 40000 in
theorem m_cw130 : lw_tbl[1467]? = some (Cond.code mY130 prog_9_method_39_code 2 none) := rfl
set_option maxRecDepth 40000 in
theorem m_cw131 : lw_tbl[1471]? = some (Cond.code mY131 prog_9_method_40_code 2 none) := rfl
set_option maxRecDepth 40000 in
theorem m_cw132 : lw_tbl[1475]? = some (Cond.code mY132 prog_9_method_33_code 2 none) := rfl
set_option maxRecDepth 40000 in
theorem m_cw133 : lw_tbl[1479]? = some (Cond.code mY133 prog_9_method_29_code 1 none) := rfl
set_option maxRecDepth 40000 in
theorem m_cw134 : lw_tbl[1483]? = some (Cond.code mY134 prog_9_method_30_code 1 none) := rfl
set_option maxRecDepth 40000 in
theorem m_cw135 : lw_tbl[1487]? = some (Cond.code mY135 prog_9_method_34_code 1 none) := rfl
set_option maxRecDepth 40000 in
theorem m_cw136 : lw_tbl[1491]? = some (Cond.code mY136 prog_9_method_52_code 2 (some .int)) := rfl
set_option maxRecDepth 40000 in
theorem m_cw137 : lw_tbl[1495]? = some (Cond.code mY137 prog_9_method_56_code 4 (some .int)) := rfl
set_option maxRecDepth 40000 in
theorem m_cw138 : lw_tbl[1499]? = some (Cond.code mY138 prog_9_method_57_code 1 (some .int)) := rfl
set_option maxRecDepth 40000 in
theorem m_cw139 : lw_tbl[1503]? = some (Cond.code mY139 prog_9_method_64_code 10 (some .int)) := rfl
set_option maxRecDepth 40000 in
theorem m_cw140 : lw_tbl[1508]? = some (Cond.code mY140 prog_9_method_54_code 2 none) := rfl
set_option maxRecDepth 40000 in
theorem m_cw141 : lw_tbl[1512]? = some (Cond.code mY141 prog_9_method_61_code 4 (some .int)) := rfl
set_option maxRecDepth 40000 in
theorem m_cw142 : lw_tbl[1516]? = some (Cond.code mY142 prog_9_method_55_code 1 (some .int)) := rfl
set_option maxRecDepth 40000 in
theorem m_cw143 : lw_tbl[1519]? = some (Cond.code mY143 prog_9_method_53_code 1 (some .int)) := rfl
set_option maxRecDepth 40000 in
theorem m_cw144 : lw_tbl[1523]? = some (Cond.code mY144 prog_9_method_62_code 9 (some .int)) := rfl
set_option maxRecDepth 40000 in
theorem m_cw145 : lw_tbl[1526]? = some (Cond.code mY145 prog_9_method_60_code 3 (some .int)) := rfl
set_option maxRecDepth 40000 in
theorem m_cw146 : lw_tbl[1529]? = some (Cond.code mY146 prog_9_method_59_code 1 (some .int)) := rfl
set_option maxRecDepth 40000 in
theorem m_cw147 : lw_tbl[1534]? = some (Cond.code mY147 prog_9_method_58_code 5 (some .boolean)) := rfl
set_option maxRecDepth 40000 in
theorem m_cw148 : lw_tbl[1538]? = some (Cond.code mY148 prog_9_method_63_code 3 (some .int)) := rfl
set_option maxRecDepth 40000 in
theorem m_cw149 : lw_tbl[1542]? = some (Cond.code mY149 prog_9_method_65_code 2 (some .int)) := rfl
set_option maxRecDepth 40000 in
theorem m_cw150 : lw_tbl[704]? = some (Cond.codeWith mY150 method_3_code 4 (some .int) [(0, 9, 12, 13), (0, 9, 15, 15)]) := rfl
set_option maxRecDepth 40000 in
theorem m_cw151 : lw_tbl[749]? = some (Cond.codeWith mY151 method_4_code 3 (some .int) [(0, 5, 8, 13)]) := rfl
set_option maxRecDepth 40000 in
theorem m_cw152 : lw_tbl[757]? = some (Cond.codeWith mY152 method_5_code 4 (some .int) [(0, 9, 12, 24), (0, 9, 15, 26)]) := rfl
set_option maxRecDepth 40000 in
theorem m_cw153 : lw_tbl[787]? = some (Cond.codeWith mY153 method_6_code 8 (some .int) [(0, 16, 19, 24), (0, 16, 23, 26), (0, 16, 27, 13)]) := rfl
set_option maxRecDepth 40000 in
theorem m_cw154 : lw_tbl[1118]? = some (Cond.codeWith mY154 method_7_code 4 (some .int) [(0, 9, 12, 13)]) := rfl
set_option maxRecDepth 40000 in
theorem m_cw155 : lw_tbl[818]? = some (Cond.code mY155 prog_27_method_104_code 5 none) := rfl
set_option maxRecDepth 40000 in
theorem m_cw156 : lw_tbl[821]? = some (Cond.code mY156 prog_27_method_30_code 3 none) := rfl
/-- place of instanceMethod or static, of selects, static -/
def m_mw : List (Nat × Nat × Bool) := [(332, 333, false), (451, 7, false), (459, 8, false), (463, 9, false), (540, 11, false), (555, 12, false), (559, 13, false), (563, 14, false), (567, 15, false), (571, 16, false), (575, 17, false), (583, 18, false), (587, 19, false), (591, 20, false), (595, 21, false), (599, 22, false), (603, 23, false), (607, 24, false), (611, 25, false), (623, 26, false), (635, 27, false), (639, 28, false), (643, 29, false), (646, 0, true), (649, 0, true), (657, 30, false), (661, 31, false), (665, 32, false), (669, 33, false), (673, 34, false), (677, 35, false), (446, 447, false), (550, 551, false), (578, 579, false), (614, 615, false), (626, 627, false), (630, 631, false), (652, 653, false), (680, 681, false), (1065, 1066, false), (1070, 1071, false), (1074, 1075, false), (800, 801, false), (806, 38, false), (810, 39, false), (814, 40, false), (1058, 41, false), (1062, 42, false), (1078, 0, true), (1082, 43, false), (1086, 44, false), (1091, 45, false), (1099, 46, false), (1103, 47, false), (1107, 48, false), (1110, 0, true), (691, 692, false), (696, 36, false), (795, 796, false), (1094, 1095, false), (1113, 1114, false), (337, 338, false), (342, 0, false), (346, 1, false), (350, 2, false), (353, 0, true), (357, 3, false), (360, 0, true), (364, 4, false), (369, 5, false), (431, 6, false), (440, 0, true), (443, 0, true), (454, 455, false), (466, 467, false), (543, 544, false), (618, 619, false), (328, 329, false), (687, 688, false), (699, 700, false), (708, 709, false), (745, 37, false), (751, 752, false), (761, 762, false), (789, 790, false), (1120, 1121, false), (1273, 1274, false), (1277, 1278, false), (1282, 49, false), (1285, 1286, false), (1289, 0, true), (1292, 1293, false), (1297, 50, false), (1301, 51, false), (1305, 52, false), (1309, 53, false), (1313, 54, false), (1331, 55, false), (1338, 56, false), (1342, 57, false), (1346, 58, false), (1350, 59, false), (1354, 60, false), (1358, 61, false), (1362, 62, false), (1366, 63, false), (1370, 64, false), (1374, 65, false), (1378, 66, false), (1382, 67, false), (1386, 68, false), (1390, 69, false), (1394, 70, false), (1398, 71, false), (1402, 72, false), (1406, 73, false), (1410, 74, false), (1414, 75, false), (1418, 76, false), (1422, 77, false), (1426, 78, false), (1430, 79, false), (1434, 80, false), (1438, 81, false), (1442, 82, false), (1446, 83, false), (1450, 84, false), (1454, 85, false), (1458, 86, false), (1462, 87, false), (1466, 88, false), (1470, 89, false), (1474, 90, false), (1478, 91, false), (1482, 92, false), (1486, 93, false), (1489, 1490, false), (1493, 1494, false), (1497, 1498, false), (1501, 1502, false), (1507, 94, false), (1511, 95, false), (1515, 96, false), (1518, 0, true), (1522, 97, false), (1525, 0, true), (1528, 0, true), (1533, 98, false), (1537, 99, false), (1540, 1541, false), (703, 0, true), (748, 0, true), (756, 0, true), (786, 0, true), (1117, 0, true), (817, 0, true), (820, 0, true)]
def m_ini : List Nat := [102, 104, 105, 106, 103, 101, 107, 100, 121]
