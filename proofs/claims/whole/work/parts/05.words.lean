/-! printed by wip/whole/gen_tables.py: the words behind the tables -/
def m_cstL : List (Nat × Nat × Nat × Nat) := [(2, 66, 1000000, 967), (5, 100, 50000, 689), (6, 347, 50000, 1403)]
def m_cslL : List (Nat × Nat × Nat × Nat × Nat) := [(4, 75, 0, 10, 333), (4, 77, 0, 2147483648, 334), (4, 85, 0, 2147483647, 338), (6, 105, 1, 0, 1214), (6, 107, 0, 27, 1215), (6, 109, 0, 96, 1216), (6, 111, 0, 176, 1217), (6, 113, 0, 8903, 1218), (6, 115, 0, 10502465, 1219), (6, 117, 0, 247162, 1220), (6, 119, 0, 249, 1221), (6, 121, 0, 107681, 1222), (6, 123, 0, 12387497, 1223), (6, 125, 0, 261347000, 1224), (6, 127, 0, 7054768229, 1225), (6, 129, 0, 407354, 1226), (6, 131, 0, 3217595, 1227), (6, 136, 0, 2147483647, 1232), (6, 138, 0, 10, 1233), (6, 140, 0, 48, 1234)]
def m_strL : List (Nat × Nat × String × Nat) := [(4, 87, "fn", 266), (4, 93, "if", 319), (4, 95, "let", 320), (4, 97, "load", 321), (4, 99, "else", 322), (4, 101, "true", 323), (4, 103, "store", 324), (4, 105, "while", 325), (4, 107, "false", 326), (4, 109, "return", 327), (4, 111, "require", 328), (0, 187, "the text has a fault", 411), (5, 46, "a byte is above 127", 617), (5, 53, "more than 600 signs", 633), (5, 60, "the text has not so many signs", 651), (5, 81, "there is no contract", 662), (5, 93, "there is no such function", 674), (5, 101, "gas is not 0 .. 50000", 690), (5, 123, "what is not 0, 1 or 2", 1022)]
/-- owner, index, method, place of the methodLink -/
def m_lnkL : List (Nat × Nat × Nat × Nat) := [(0, 45, 61, 236), (0, 49, 31, 345), (0, 52, 1, 349), (0, 56, 2, 357), (0, 59, 5, 450), (0, 62, 11, 478), (0, 68, 34, 510), (0, 77, 3, 361), (0, 80, 4, 438), (0, 84, 32, 446), (0, 87, 6, 454), (0, 90, 7, 458), (0, 93, 8, 462), (0, 96, 10, 470), (0, 100, 33, 474), (0, 103, 12, 482), (0, 106, 13, 486), (0, 109, 14, 490), (0, 112, 25, 552), (0, 115, 26, 556), (0, 118, 27, 560), (0, 121, 29, 568), (0, 124, 30, 572), (0, 127, 15, 494), (0, 130, 9, 466), (0, 133, 21, 534), (0, 136, 18, 506), (0, 140, 28, 564), (0, 143, 37, 548), (0, 149, 73, 353), (0, 152, 16, 498), (0, 155, 23, 542), (0, 158, 24, 545), (0, 162, 17, 502), (0, 165, 76, 514), (0, 168, 19, 518), (0, 171, 20, 530), (0, 174, 22, 538), (0, 177, 35, 522), (0, 180, 75, 442), (0, 184, 74, 365), (1, 37, 36, 526), (2, 54, 35, 700), (2, 58, 43, 701), (2, 62, 45, 709), (2, 67, 40, 968), (2, 70, 41, 972), (2, 73, 48, 976), (2, 76, 49, 979), (2, 80, 44, 705), (2, 83, 50, 983), (2, 86, 46, 955), (2, 90, 47, 959), (2, 93, 56, 987), (2, 96, 51, 988), (2, 99, 52, 996), (2, 102, 53, 1000), (2, 105, 54, 1004), (2, 110, 55, 1008), (2, 114, 59, 992), (2, 117, 155, 713), (2, 123, 39, 963), (3, 31, 57, 591), (4, 40, 62, 240), (4, 44, 64, 248), (4, 49, 63, 244), (4, 52, 65, 252), (4, 56, 66, 255), (4, 59, 68, 262), (4, 63, 67, 259), (4, 66, 70, 329), (4, 69, 71, 339), (4, 72, 72, 342), (4, 89, 69, 267), (5, 56, 81, 640), (5, 62, 0, 231), (5, 73, 38, 576), (5, 87, 36, 664), (5, 96, 35, 681), (5, 107, 58, 691), (5, 112, 42, 696), (5, 116, 60, 1011), (5, 125, 56, 587), (6, 89, 88, 1179), (6, 93, 90, 1187), (6, 97, 93, 1198), (6, 101, 95, 1206), (6, 151, 99, 1239), (6, 155, 94, 1202), (6, 158, 96, 1210), (6, 162, 97, 1228), (6, 165, 98, 1235), (6, 174, 100, 1243), (6, 187, 92, 1194), (6, 190, 103, 1255), (6, 199, 113, 1295), (6, 205, 114, 1299), (6, 208, 112, 1291), (6, 211, 126, 1347), (6, 214, 107, 1271), (6, 217, 108, 1275), (6, 221, 109, 1279), (6, 225, 133, 1375), (6, 228, 134, 1379), (6, 231, 135, 1383), (6, 234, 117, 1311), (6, 238, 115, 1303), (6, 241, 116, 1307), (6, 244, 121, 1327), (6, 247, 123, 1335), (6, 250, 125, 1343), (6, 253, 127, 1351), (6, 256, 128, 1355), (6, 259, 129, 1359), (6, 262, 130, 1363), (6, 265, 131, 1367), (6, 268, 120, 1323), (6, 272, 122, 1331), (6, 275, 110, 1283), (6, 278, 111, 1287), (6, 281, 106, 1267), (6, 284, 118, 1315), (6, 287, 102, 1251), (6, 290, 104, 1259), (6, 293, 105, 1263), (6, 296, 119, 1319), (6, 299, 124, 1339), (6, 302, 132, 1371), (6, 305, 101, 1247), (6, 317, 146, 1426), (6, 324, 142, 1412), (6, 327, 140, 1404), (6, 330, 145, 1423), (6, 334, 137, 1429), (6, 337, 141, 1408), (6, 340, 147, 1430), (6, 344, 148, 1434), (6, 355, 143, 1416), (6, 358, 144, 1419), (7, 7, 80, 604), (7, 17, 82, 647), (7, 21, 83, 657), (7, 28, 84, 685), (7, 32, 85, 1018), (7, 39, 150, 599), (7, 44, 87, 1175), (7, 45, 86, 1171), (7, 49, 151, 644), (7, 52, 89, 1183), (7, 53, 77, 227), (7, 56, 91, 1190), (7, 57, 152, 652), (7, 59, 136, 1387), (7, 60, 153, 682), (7, 63, 139, 1399), (7, 64, 154, 1015), (7, 66, 149, 1438), (7, 67, 78, 583), (7, 70, 137, 1391), (7, 71, 79, 595), (7, 74, 138, 1395), (8, 13, 156, 716)]
set_option maxRecDepth 40000 in
theorem m_cw0 : lw_tbl[334]? = some (Cond.codeWith mY0 prog_2_method_2_code 4 (some .int) [(26, 75, 78, 72)]) := rfl
set_option maxRecDepth 40000 in
theorem m_cw1 : lw_tbl[452]? = some (Cond.code mY1 prog_2_method_23_code 1 (some .int)) := rfl
set_option maxRecDepth 40000 in
theorem m_cw2 : lw_tbl[460]? = some (Cond.code mY2 prog_2_method_3_code 2 none) := rfl
set_option maxRecDepth 40000 in
theorem m_cw3 : lw_tbl[464]? = some (Cond.code mY3 prog_2_method_32_code 2 none) := rfl
set_option maxRecDepth 40000 in
theorem m_cw4 : lw_tbl[541]? = some (Cond.code mY4 prog_2_method_31_code 3 (some .int)) := rfl
set_option maxRecDepth 40000 in
theorem m_cw5 : lw_tbl[553]? = some (Cond.code mY5 prog_2_method_4_code 2 none) := rfl
set_option maxRecDepth 40000 in
theorem m_cw6 : lw_tbl[557]? = some (Cond.code mY6 prog_2_method_24_code 2 none) := rfl
set_option maxRecDepth 40000 in
theorem m_cw7 : lw_tbl[561]? = some (Cond.code mY7 prog_2_method_5_code 1 none) := rfl
set_option maxRecDepth 40000 in
theorem m_cw8 : lw_tbl[565]? = some (Cond.code mY8 prog_2_method_27_code 1 none) := rfl
set_option maxRecDepth 40000 in
theorem m_cw9 : lw_tbl[569]? = some (Cond.code mY9 prog_2_method_30_code 3 (some .int)) := rfl
set_option maxRecDepth 40000 in
theorem m_cw10 : lw_tbl[573]? = some (Cond.code mY10 prog_2_method_28_code 3 none) := rfl
set_option maxRecDepth 40000 in
theorem m_cw11 : lw_tbl[581]? = some (Cond.code mY11 prog_2_method_6_code 4 none) := rfl
set_option maxRecDepth 40000 in
theorem m_cw12 : lw_tbl[585]? = some (Cond.code mY12 prog_2_method_25_code 3 (some .int)) := rfl
set_option maxRecDepth 40000 in
theorem m_cw13 : lw_tbl[589]? = some (Cond.code mY13 prog_2_method_7_code 2 none) := rfl
set_option maxRecDepth 40000 in
theorem m_cw14 : lw_tbl[593]? = some (Cond.code mY14 prog_2_method_8_code 4 none) := rfl
set_option maxRecDepth 40000 in
theorem m_cw15 : lw_tbl[597]? = some (Cond.code mY15 prog_2_method_15_code 11 (some .int)) := rfl
set_option maxRecDepth 40000 in
theorem m_cw16 : lw_tbl[601]? = some (Cond.code mY16 prog_2_method_18_code 5 (some .int)) := rfl
set_option maxRecDepth 40000 in
theorem m_cw17 : lw_tbl[605]? = some (Cond.code mY17 prog_2_method_19_code 6 (some .int)) := rfl
set_option maxRecDepth 40000 in
theorem m_cw18 : lw_tbl[609]? = some (Cond.code mY18 prog_2_method_26_code 4 none) := rfl
set_option maxRecDepth 40000 in
theorem m_cw19 : lw_tbl[621]? = some (Cond.code mY19 prog_2_method_22_code 8 (some .int)) := rfl
set_option maxRecDepth 40000 in
theorem m_cw20 : lw_tbl[633]? = some (Cond.code mY20 prog_2_method_21_code 3 (some .int)) := rfl
set_option maxRecDepth 40000 in
theorem m_cw21 : lw_tbl[637]? = some (Cond.code mY21 prog_2_method_29_code 2 (some .int)) := rfl
set_option maxRecDepth 40000 in
theorem m_cw22 : lw_tbl[641]? = some (Cond.code mY22 prog_2_method_20_code 4 (some .int)) := rfl
set_option maxRecDepth 40000 in
theorem m_cw23 : lw_tbl[644]? = some (Cond.code mY23 prog_2_method_16_code 1 (some .int)) := rfl
set_option maxRecDepth 40000 in
theorem m_cw24 : lw_tbl[647]? = some (Cond.code mY24 prog_2_method_17_code 3 (some .int)) := rfl
set_option maxRecDepth 40000 in
theorem m_cw25 : lw_tbl[655]? = some (Cond.code mY25 prog_2_method_9_code 5 none) := rfl
set_option maxRecDepth 40000 in
theorem m_cw26 : lw_tbl[659]? = some (Cond.code mY26 prog_2_method_10_code 4 none) := rfl
set_option maxRecDepth 40000 in
theorem m_cw27 : lw_tbl[663]? = some (Cond.code mY27 prog_2_method_11_code 4 none) := rfl
set_option maxRecDepth 40000 in
theorem m_cw28 : lw_tbl[667]? = some (Cond.code mY28 prog_2_method_13_code 3 (some .int)) := rfl
set_option maxRecDepth 40000 in
theorem m_cw29 : lw_tbl[671]? = some (Cond.code mY29 prog_2_method_12_code 4 none) := rfl
set_option maxRecDepth 40000 in
theorem m_cw30 : lw_tbl[675]? = some (Cond.code mY30 prog_2_method_14_code 4 none) := rfl
set_option maxRecDepth 40000 in
theorem m_cw31 : lw_tbl[448]? = some (Cond.code mY31 prog_3_method_2_code 1 none) := rfl
set_option maxRecDepth 40000 in
theorem m_cw32 : lw_tbl[549]? = some (Cond.code mY32 prog_3_method_4_code 1 none) := rfl
set_option maxRecDepth 40000 in
theorem m_cw33 : lw_tbl[577]? = some (Cond.code mY33 prog_3_method_5_code 1 none) := rfl
set_option maxRecDepth 40000 in
theorem m_cw34 : lw_tbl[613]? = some (Cond.code mY34 prog_3_method_9_code 3 (some .int)) := rfl
set_option maxRecDepth 40000 in
theorem m_cw35 : lw_tbl[625]? = some (Cond.code mY35 prog_3_method_7_code 2 (some .int)) := rfl
set_option maxRecDepth 40000 in
theorem m_cw36 : lw_tbl[629]? = some (Cond.code mY36 prog_3_method_6_code 2 (some .boolean)) := rfl
set_option maxRecDepth 40000 in
theorem m_cw37 : lw_tbl[651]? = some (Cond.code mY37 prog_3_method_10_code 2 none) := rfl
set_option maxRecDepth 40000 in
theorem m_cw38 : lw_tbl[679]? = some (Cond.code mY38 prog_3_method_3_code 2 none) := rfl
set_option maxRecDepth 40000 in
theorem m_cw39 : lw_tbl[1066]? = some (Cond.code mY39 prog_3_method_8_code 2 (some .int)) := rfl
set_option maxRecDepth 40000 in
theorem m_cw40 : lw_tbl[1071]? = some (Cond.code mY40 prog_3_method_11_code 2 (some .int)) := rfl
set_option maxRecDepth 40000 in
theorem m_cw41 : lw_tbl[1075]? = some (Cond.code mY41 prog_3_method_12_code 2 (some .int)) := rfl
set_option maxRecDepth 40000 in
theorem m_cw42 : lw_tbl[799]? = some (Cond.code mY42 prog_4_method_2_code 9 (some .int)) := rfl
set_option maxRecDepth 40000 in
theorem m_cw43 : lw_tbl[804]? = some (Cond.code mY43 prog_4_method_3_code 5 none) := rfl
set_option maxRecDepth 40000 in
theorem m_cw44 : lw_tbl[808]? = some (Cond.code mY44 prog_4_method_14_code 2 none) := rfl
set_option maxRecDepth 40000 in
theorem m_cw45 : lw_tbl[812]? = some (Cond.code mY45 prog_4_method_10_code 4 none) := rfl
set_option maxRecDepth 40000 in
theorem m_cw46 : lw_tbl[1058]? = some (Cond.code mY46 prog_4_method_15_code 1 (some .int)) := rfl
set_option maxRecDepth 40000 in
theorem m_cw47 : lw_tbl[1062]? = some (Cond.code mY47 prog_4_method_13_code 4 none) := rfl
set_option maxRecDepth 40000 in
theorem m_cw48 : lw_tbl[1078]? = some (Cond.code mY48 prog_4_method_4_code 1 (some .int)) := rfl
set_option maxRecDepth 40000 in
theorem m_cw49 : lw_tbl[1082]? = some (Cond.code mY49 prog_4_method_5_code 3 none) := rfl
set_option maxRecDepth 40000 in
theorem m_cw50 : lw_tbl[1086]? = some (Cond.code mY50 prog_4_method_12_code 3 (some .int)) := rfl
set_option maxRecDepth 40000 in
theorem m_cw51 : lw_tbl[1091]? = some (Cond.code mY51 prog_4_method_9_code 3 none) := rfl
set_option maxRecDepth 40000 in
theorem m_cw52 : lw_tbl[1099]? = some (Cond.code mY52 prog_4_method_11_code 2 none) := rfl
set_option maxRecDepth 40000 in
theorem m_cw53 : lw_tbl[1103]? = some (Cond.code mY53 prog_4_method_6_code 4 none) := rfl
set_option maxRecDepth 40000 in
theorem m_cw54 : lw_tbl[1107]? = some (Cond.code mY54 prog_4_method_7_code 4 none) := rfl
set_option maxRecDepth 40000 in
theorem m_cw55 : lw_tbl[1110]? = some (Cond.code mY55 prog_4_method_8_code 3 (some .int)) := rfl
set_option maxRecDepth 40000 in
theorem m_cw56 : lw_tbl[690]? = some (Cond.code mY56 prog_6_method_2_code 3 (some .int)) := rfl
set_option maxRecDepth 40000 in
theorem m_cw57 : lw_tbl[694]? = some (Cond.code mY57 prog_6_method_6_code 3 (some .int)) := rfl
set_option maxRecDepth 40000 in
theorem m_cw58 : lw_tbl[794]? = some (Cond.code mY58 prog_6_method_4_code 1 none) := rfl
set_option maxRecDepth 40000 in
theorem m_cw59 : lw_tbl[1095]? = some (Cond.code mY59 prog_6_method_3_code 4 (some .boolean)) := rfl
set_option maxRecDepth 40000 in
theorem m_cw60 : lw_tbl[1114]? = some (Cond.code mY60 prog_6_method_5_code 1 none) := rfl
set_option maxRecDepth 40000 in
theorem m_cw61 : lw_tbl[339]? = some (Cond.code mY61 prog_7_method_2_code 7 none) := rfl
set_option maxRecDepth 40000 in
theorem m_cw62 : lw_tbl[343]? = some (Cond.code mY62 prog_7_method_10_code 3 (some .int)) := rfl
set_option maxRecDepth 40000 in
theorem m_cw63 : lw_tbl[347]? = some (Cond.code mY63 prog_7_method_13_code 2 (some .int)) := rfl
set_option maxRecDepth 40000 in
theorem m_cw64 : lw_tbl[351]? = some (Cond.code mY64 prog_7_method_7_code 4 (some .int)) := rfl
set_option maxRecDepth 40000 in
theorem m_cw65 : lw_tbl[354]? = some (Cond.code mY65 prog_7_method_14_code 1 (some .boolean)) := rfl
set_option maxRecDepth 40000 in
theorem m_cw66 : lw_tbl[358]? = some (Cond.code mY66 prog_7_method_8_code 3 (some .int)) := rfl
set_option maxRecDepth 40000 in
theorem m_cw67 : lw_tbl[361]? = some (Cond.code mY67 prog_7_method_15_code 1 (some .boolean)) := rfl
set_option maxRecDepth 40000 in
theorem m_cw68 : lw_tbl[365]? = some (Cond.code mY68 prog_7_method_11_code 3 (some .int)) := rfl
set_option maxRecDepth 40000 in
theorem m_cw69 : lw_tbl[370]? = some (Cond.code mY69 prog_7_method_12_code 4 (some .boolean)) := rfl
set_option maxRecDepth 40000 in
theorem m_cw70 : lw_tbl[432]? = some (Cond.code mY70 prog_7_method_9_code 5 (some .int)) := rfl
set_option maxRecDepth 40000 in
theorem m_cw71 : lw_tbl[441]? = some (Cond.code mY71 prog_7_method_16_code 2 (some .int)) := rfl
set_option maxRecDepth 40000 in
theorem m_cw72 : lw_tbl[444]? = some (Cond.code mY72 prog_7_method_17_code 1 (some .int)) := rfl
set_option maxRecDepth 40000 in
theorem m_cw73 : lw_tbl[456]? = some (Cond.code mY73 prog_7_method_3_code 2 (some .int)) := rfl
set_option maxRecDepth 40000 in
theorem m_cw74 : lw_tbl[468]? = some (Cond.code mY74 prog_7_method_4_code 2 (some .int)) := rfl
set_option maxRecDepth 40000 in
theorem m_cw75 : lw_tbl[545]? = some (Cond.code mY75 prog_7_method_6_code 7 (some .boolean)) := rfl
set_option maxRecDepth 40000 in
theorem m_cw76 : lw_tbl[617]? = some (Cond.code mY76 prog_7_method_5_code 2 (some .int)) := rfl
set_option maxRecDepth 40000 in
theorem m_cw77 : lw_tbl[330]? = some (Cond.code mY77 prog_1_method_4_code 2 (some .int)) := rfl
set_option maxRecDepth 40000 in
theorem m_cw78 : lw_tbl[686]? = some (Cond.code mY78 prog_1_method_8_code 2 (some .int)) := rfl
set_option maxRecDepth 40000 in
theorem m_cw79 : lw_tbl[698]? = some (Cond.code mY79 prog_1_method_9_code 1 (some .int)) := rfl
set_option maxRecDepth 40000 in
theorem m_cw80 : lw_tbl[707]? = some (Cond.code mY80 prog_1_method_2_code 5 (some .int)) := rfl
set_option maxRecDepth 40000 in
theorem m_cw81 : lw_tbl[743]? = some (Cond.code mY81 prog_1_method_10_code 2 none) := rfl
set_option maxRecDepth 40000 in
theorem m_cw82 : lw_tbl[750]? = some (Cond.code mY82 prog_1_method_3_code 2 none) := rfl
set_option maxRecDepth 40000 in
theorem m_cw83 : lw_tbl[760]? = some (Cond.code mY83 prog_1_method_5_code 2 (some .int)) := rfl
set_option maxRecDepth 40000 in
theorem m_cw84 : lw_tbl[788]? = some (Cond.code mY84 prog_1_method_6_code 8 (some .int)) := rfl
set_option maxRecDepth 40000 in
theorem m_cw85 : lw_tbl[1121]? = some (Cond.code mY85 prog_1_method_7_code 2 (some .int)) := rfl
set_option maxRecDepth 40000 in
theorem m_cw86 : lw_tbl[1274]? = some (Cond.code mY86 prog_9_method_2_code 1 (some .int)) := rfl
set_option maxRecDepth 40000 in
theorem m_cw87 : lw_tbl[1278]? = some (Cond.code mY87 prog_9_method_5_code 6 (some .int)) := rfl
set_option maxRecDepth 40000 in
theorem m_cw88 : lw_tbl[1282]? = some (Cond.code mY88 prog_9_method_3_code 4 (some .boolean)) := rfl
set_option maxRecDepth 40000 in
theorem m_cw89 : lw_tbl[1286]? = some (Cond.code mY89 prog_9_method_6_code 2 none) := rfl
set_option maxRecDepth 40000 in
theorem m_cw90 : lw_tbl[1289]? = some (Cond.code mY90 prog_9_method_4_code 3 (some .boolean)) := rfl
set_option maxRecDepth 40000 in
theorem m_cw91 : lw_tbl[1293]? = some (Cond.code mY91 prog_9_method_51_code 2 (some .int)) := rfl
set_option maxRecDepth 40000 in
theorem m_cw92 : lw_tbl[1297]? = some (Cond.code mY92 prog_9_method_14_code 1 none) := rfl
set_option maxRecDepth 40000 in
theorem m_cw93 : lw_tbl[1301]? = some (Cond.code mY93 prog_9_method_7_code 2 (some .int)) := rfl
set_option maxRecDepth 40000 in
theorem m_cw94 : lw_tbl[1305]? = some (Cond.code mY94 prog_9_method_8_code 2 (some .boolean)) := rfl
set_option maxRecDepth 40000 in
theorem m_cw95 : lw_tbl[1309]? = some (Cond.code mY95 prog_9_method_9_code 2 (some .boolean)) := rfl
set_option maxRecDepth 40000 in
theorem m_cw96 : lw_tbl[1313]? = some (Cond.code mY96 prog_9_method_10_code 6 (some .int)) := rfl
set_option maxRecDepth 40000 in
theorem m_cw97 : lw_tbl[1331]? = some (Cond.code mY97 prog_9_method_11_code 3 none) := rfl
set_option maxRecDepth 40000 in
theorem m_cw98 : lw_tbl[1338]? = some (Cond.code mY98 prog_9_method_13_code 1 none) := rfl
set_option maxRecDepth 40000 in
theorem m_cw99 : lw_tbl[1342]? = some (Cond.code mY99 prog_9_method_12_code 5 none) := rfl
set_option maxRecDepth 40000 in
theorem m_cw100 : lw_tbl[1346]? = some (Cond.code mY100 prog_9_method_16_code 2 none) := rfl
set_option maxRecDepth 40000 in
theorem m_cw101 : lw_tbl[1350]? = some (Cond.code mY101 prog_9_method_50_code 2 none) := rfl
set_option maxRecDepth 40000 in
theorem m_cw102 : lw_tbl[1354]? = some (Cond.code mY102 prog_9_method_23_code 2 none) := rfl
set_option maxRecDepth 40000 in
theorem m_cw103 : lw_tbl[1358]? = some (Cond.code mY103 prog_9_method_15_code 2 none) := rfl
set_option maxRecDepth 40000 in
theorem m_cw104 : lw_tbl[1362]? = some (Cond.code mY104 prog_9_method_24_code 2 none) := rfl
set_option maxRecDepth 40000 in
theorem m_cw105 : lw_tbl[1366]? = some (Cond.code mY105 prog_9_method_49_code 4 none) := rfl
set_option maxRecDepth 40000 in
theorem m_cw106 : lw_tbl[1370]? = some (Cond.code mY106 prog_9_method_46_code 1 none) := rfl
set_option maxRecDepth 40000 in
theorem m_cw107 : lw_tbl[1374]? = some (Cond.code mY107 prog_9_method_18_code 2 none) := rfl
set_option maxRecDepth 40000 in
theorem m_cw108 : lw_tbl[1378]? = some (Cond.code mY108 prog_9_method_17_code 5 none) := rfl
set_option maxRecDepth 40000 in
theorem m_cw109 : lw_tbl[1382]? = some (Cond.code mY109 prog_9_method_22_code 3 none) := rfl
set_option maxRecDepth 40000 in
theorem m_cw110 : lw_tbl[1386]? = some (Cond.code mY110 prog_9_method_20_code 2 none) := rfl
set_option maxRecDepth 40000 in
theorem m_cw111 : lw_tbl[1390]? = some (Cond.code mY111 prog_9_method_47_code 4 none) := rfl
set_option maxRecDepth 40000 in
theorem m_cw112 : lw_tbl[1394]? = some (Cond.code mY112 prog_9_method_27_code 5 (some .int)) := rfl
set_option maxRecDepth 40000 in
theorem m_cw113 : lw_tbl[1398]? = some (Cond.code mY113 prog_9_method_25_code 6 (some .boolean)) := rfl
set_option maxRecDepth 40000 in
theorem m_cw114 : lw_tbl[1402]? = some (Cond.code mY114 prog_9_method_26_code 5 (some .int)) := rfl
set_option maxRecDepth 40000 in
theorem m_cw115 : lw_tbl[1406]? = some (Cond.code mY115 prog_9_method_19_code 1 (some .int)) := rfl
set_option maxRecDepth 40000 in
theorem m_cw116 : lw_tbl[1410]? = some (Cond.code mY116 prog_9_method_35_code 3 none) := rfl
set_option maxRecDepth 40000 in
theorem m_cw117 : lw_tbl[1414]? = some (Cond.code mY117 prog_9_method_21_code 1 (some .int)) := rfl
set_option maxRecDepth 40000 in
theorem m_cw118 : lw_tbl[1418]? = some (Cond.code mY118 prog_9_method_48_code 4 none) := rfl
set_option maxRecDepth 40000 in
theorem m_cw119 : lw_tbl[1422]? = some (Cond.code mY119 prog_9_method_44_code 2 none) := rfl
set_option maxRecDepth 40000 in
theorem m_cw120 : lw_tbl[1426]? = some (Cond.code mY120 prog_9_method_43_code 6 none) := rfl
set_option maxRecDepth 40000 in
theorem m_cw121 : lw_tbl[1430]? = some (Cond.code mY121 prog_9_method_36_code 2 none) := rfl
set_option maxRecDepth 40000 in
theorem m_cw122 : lw_tbl[1434]? = some (Cond.code mY122 prog_9_method_45_code 9 none) := rfl
set_option maxRecDepth 40000 in
theorem m_cw123 : lw_tbl[1438]? = some (Cond.code mY123 prog_9_method_37_code 2 none) := rfl
set_option maxRecDepth 40000 in
theorem m_cw124 : lw_tbl[1442]? = some (Cond.code mY124 prog_9_method_42_code 4 none) := rfl
set_option maxRecDepth 40000 in
theorem m_cw125 : lw_tbl[1446]? = some (Cond.code mY125 prog_9_method_38_code 4 none) := rfl
set_option maxRecDepth 40000 in
theorem m_cw126 : lw_tbl[1450]? = some (Cond.code mY126 prog_9_method_28_code 4 none) := rfl
set_option maxRecDepth 40000 in
theorem m_cw127 : lw_tbl[1454]? = some (Cond.code mY127 prog_9_method_31_code 1 none) := rfl
set_option maxRecDepth 40000 in
theorem m_cw128 : lw_tbl[1458]? = some (Cond.code mY128 prog_9_method_32_code 2 none) := rfl
set_option maxRecDepth 40000 in
theorem m_cw129 : lw_tbl[1462]? = some (Cond.code mY129 prog_9_method_41_code 2 none) := rfl
set_option maxRecDepth 40000 in
theorem m_cw130 : lw_tbl[1466]? = some (Cond.code mY130 prog_9_method_39_code 2 none) := rfl
set_option maxRecDepth 40000 in
theorem m_cw131 : lw_tbl[1470]? = some (Cond.code mY131 prog_9_method_40_code 2 none) := rfl
set_option maxRecDepth 40000 in
theorem m_cw132 : lw_tbl[1474]? = some (Cond.code mY132 prog_9_method_33_code 2 none) := rfl
set_option maxRecDepth 40000 in
theorem m_cw133 : lw_tbl[1478]? = some (Cond.code mY133 prog_9_method_29_code 1 none) := rfl
set_option maxRecDepth 40000 in
theorem m_cw134 : lw_tbl[1482]? = some (Cond.code mY134 prog_9_method_30_code 1 none) := rfl
set_option maxRecDepth 40000 in
theorem m_cw135 : lw_tbl[1486]? = some (Cond.code mY135 prog_9_method_34_code 1 none) := rfl
set_option maxRecDepth 40000 in
theorem m_cw136 : lw_tbl[1490]? = some (Cond.code mY136 prog_9_method_52_code 2 (some .int)) := rfl
set_option maxRecDepth 40000 in
theorem m_cw137 : lw_tbl[1494]? = some (Cond.code mY137 prog_9_method_56_code 4 (some .int)) := rfl
set_option maxRecDepth 40000 in
theorem m_cw138 : lw_tbl[1498]? = some (Cond.code mY138 prog_9_method_57_code 1 (some .int)) := rfl
set_option maxRecDepth 40000 in
theorem m_cw139 : lw_tbl[1502]? = some (Cond.code mY139 prog_9_method_64_code 10 (some .int)) := rfl
set_option maxRecDepth 40000 in
theorem m_cw140 : lw_tbl[1507]? = some (Cond.code mY140 prog_9_method_54_code 2 none) := rfl
set_option maxRecDepth 40000 in
theorem m_cw141 : lw_tbl[1511]? = some (Cond.code mY141 prog_9_method_61_code 4 (some .int)) := rfl
set_option maxRecDepth 40000 in
theorem m_cw142 : lw_tbl[1515]? = some (Cond.code mY142 prog_9_method_55_code 1 (some .int)) := rfl
set_option maxRecDepth 40000 in
theorem m_cw143 : lw_tbl[1518]? = some (Cond.code mY143 prog_9_method_53_code 1 (some .int)) := rfl
set_option maxRecDepth 40000 in
theorem m_cw144 : lw_tbl[1522]? = some (Cond.code mY144 prog_9_method_62_code 9 (some .int)) := rfl
set_option maxRecDepth 40000 in
theorem m_cw145 : lw_tbl[1525]? = some (Cond.code mY145 prog_9_method_60_code 3 (some .int)) := rfl
set_option maxRecDepth 40000 in
theorem m_cw146 : lw_tbl[1528]? = some (Cond.code mY146 prog_9_method_59_code 1 (some .int)) := rfl
set_option maxRecDepth 40000 in
theorem m_cw147 : lw_tbl[1533]? = some (Cond.code mY147 prog_9_method_58_code 5 (some .boolean)) := rfl
set_option maxRecDepth 40000 in
theorem m_cw148 : lw_tbl[1537]? = some (Cond.code mY148 prog_9_method_63_code 3 (some .int)) := rfl
set_option maxRecDepth 40000 in
theorem m_cw149 : lw_tbl[1541]? = some (Cond.code mY149 prog_9_method_65_code 2 (some .int)) := rfl
set_option maxRecDepth 40000 in
theorem m_cw150 : lw_tbl[701]? = some (Cond.codeWith mY150 method_3_code 4 (some .int) [(0, 9, 12, 13), (0, 9, 15, 15)]) := rfl
set_option maxRecDepth 40000 in
theorem m_cw151 : lw_tbl[746]? = some (Cond.codeWith mY151 method_4_code 3 (some .int) [(0, 5, 8, 13)]) := rfl
set_option maxRecDepth 40000 in
theorem m_cw152 : lw_tbl[754]? = some (Cond.codeWith mY152 method_5_code 4 (some .int) [(0, 9, 12, 24), (0, 9, 15, 26)]) := rfl
set_option maxRecDepth 40000 in
theorem m_cw153 : lw_tbl[784]? = some (Cond.codeWith mY153 method_6_code 8 (some .int) [(0, 16, 19, 24), (0, 16, 23, 26), (0, 16, 27, 13)]) := rfl
set_option maxRecDepth 40000 in
theorem m_cw154 : lw_tbl[1117]? = some (Cond.codeWith mY154 method_7_code 4 (some .int) [(0, 9, 12, 13)]) := rfl
set_option maxRecDepth 40000 in
theorem m_cw155 : lw_tbl[815]? = some (Cond.code mY155 prog_27_method_104_code 5 none) := rfl
set_option maxRecDepth 40000 in
theorem m_cw156 : lw_tbl[818]? = some (Cond.code mY156 prog_27_method_30_code 3 none) := rfl
/-- place of instanceMethod or static, of selects, static -/
def m_mw : List (Nat × Nat × Bool) := [(332, 333, false), (451, 7, false), (459, 8, false), (463, 9, false), (540, 11, false), (552, 12, false), (556, 13, false), (560, 14, false), (564, 15, false), (568, 16, false), (572, 17, false), (580, 18, false), (584, 19, false), (588, 20, false), (592, 21, false), (596, 22, false), (600, 23, false), (604, 24, false), (608, 25, false), (620, 26, false), (632, 27, false), (636, 28, false), (640, 29, false), (643, 0, true), (646, 0, true), (654, 30, false), (658, 31, false), (662, 32, false), (666, 33, false), (670, 34, false), (674, 35, false), (446, 447, false), (547, 548, false), (575, 576, false), (611, 612, false), (623, 624, false), (627, 628, false), (649, 650, false), (677, 678, false), (1064, 1065, false), (1069, 1070, false), (1073, 1074, false), (797, 798, false), (803, 38, false), (807, 39, false), (811, 40, false), (1057, 41, false), (1061, 42, false), (1077, 0, true), (1081, 43, false), (1085, 44, false), (1090, 45, false), (1098, 46, false), (1102, 47, false), (1106, 48, false), (1109, 0, true), (688, 689, false), (693, 36, false), (792, 793, false), (1093, 1094, false), (1112, 1113, false), (337, 338, false), (342, 0, false), (346, 1, false), (350, 2, false), (353, 0, true), (357, 3, false), (360, 0, true), (364, 4, false), (369, 5, false), (431, 6, false), (440, 0, true), (443, 0, true), (454, 455, false), (466, 467, false), (543, 544, false), (615, 616, false), (328, 329, false), (684, 685, false), (696, 697, false), (705, 706, false), (742, 37, false), (748, 749, false), (758, 759, false), (786, 787, false), (1119, 1120, false), (1272, 1273, false), (1276, 1277, false), (1281, 49, false), (1284, 1285, false), (1288, 0, true), (1291, 1292, false), (1296, 50, false), (1300, 51, false), (1304, 52, false), (1308, 53, false), (1312, 54, false), (1330, 55, false), (1337, 56, false), (1341, 57, false), (1345, 58, false), (1349, 59, false), (1353, 60, false), (1357, 61, false), (1361, 62, false), (1365, 63, false), (1369, 64, false), (1373, 65, false), (1377, 66, false), (1381, 67, false), (1385, 68, false), (1389, 69, false), (1393, 70, false), (1397, 71, false), (1401, 72, false), (1405, 73, false), (1409, 74, false), (1413, 75, false), (1417, 76, false), (1421, 77, false), (1425, 78, false), (1429, 79, false), (1433, 80, false), (1437, 81, false), (1441, 82, false), (1445, 83, false), (1449, 84, false), (1453, 85, false), (1457, 86, false), (1461, 87, false), (1465, 88, false), (1469, 89, false), (1473, 90, false), (1477, 91, false), (1481, 92, false), (1485, 93, false), (1488, 1489, false), (1492, 1493, false), (1496, 1497, false), (1500, 1501, false), (1506, 94, false), (1510, 95, false), (1514, 96, false), (1517, 0, true), (1521, 97, false), (1524, 0, true), (1527, 0, true), (1532, 98, false), (1536, 99, false), (1539, 1540, false), (700, 0, true), (745, 0, true), (753, 0, true), (783, 0, true), (1116, 0, true), (814, 0, true), (817, 0, true)]
def m_ini : List Nat := [102, 104, 105, 106, 103, 101, 107, 100, 121]
