/-- a method: its name, code, locals, what it answers, its table; the places of its words -/
def zmn : List (MethodName × ByteArray × Nat × Option FieldType × List (Nat × Nat × Nat × Nat) × Nat × Nat × Nat × Nat) := [(⟨"SandHouseLaw", "law", "([I)Z"⟩, code, 7, (some .boolean), [], 0, 183, 0, 0),
  (⟨"SandHouseLaw", "house", "(LSandHouse;[J)I"⟩, method_3_code, 3, (some .int), [(0, 8, 11, 13), (0, 8, 14, 15)], 807, 183, 806, 0),
  (⟨"SandHouseLaw", "law", "(LSandHouse;[J)I"⟩, method_4_code, 3, (some .int), [(0, 8, 11, 13)], 1046, 183, 1045, 0),
  (⟨"SandHouseLaw", "room", "(LSandHouse;II[J)I"⟩, method_5_code, 5, (some .int), [(0, 10, 13, 24), (0, 10, 17, 26)], 1121, 183, 1120, 0),
  (⟨"SandHouseLaw", "sand", "(LSandHouse;II[J)I"⟩, method_6_code, 5, (some .int), [(0, 10, 13, 24)], 1185, 183, 1184, 0),
  (⟨"SandHouseLaw", "person", "(LSandHouse;II[J)I"⟩, method_7_code, 5, (some .int), [(0, 10, 13, 24), (0, 10, 17, 26)], 1197, 183, 1196, 0),
  (⟨"SandHouseLaw", "load", "(LSandHouse;II[J)I"⟩, method_8_code, 5, (some .int), [(0, 10, 13, 24)], 1211, 183, 1210, 0),
  (⟨"SandHouseLaw", "habit", "(LSandHouse;II[J)I"⟩, method_9_code, 5, (some .int), [(0, 10, 13, 24)], 1218, 183, 1217, 0),
  (⟨"SandHouseLaw", "rule", "(LSandHouse;III[J)I"⟩, method_10_code, 6, (some .int), [(0, 12, 15, 24), (0, 12, 19, 26)], 1225, 183, 1224, 0),
  (⟨"SandHouseLaw", "rounds", "(LSandHouse;I[J)I"⟩, method_11_code, 4, (some .int), [(0, 9, 12, 13)], 1237, 183, 1236, 0),
  (⟨"SandHouseLaw", "sweep", "(LSandHouse;I[J)I"⟩, method_12_code, 4, (some .int), [(0, 9, 12, 24)], 1256, 183, 1255, 0),
  (⟨"SandHouseLaw", "beat", "(LSandHouse;I[J)I"⟩, method_13_code, 4, (some .int), [(0, 9, 12, 24)], 1268, 183, 1267, 0),
  (⟨"SandHouseLaw", "tool", "(LSandHouse;II[J)I"⟩, method_14_code, 5, (some .int), [(0, 10, 13, 24), (0, 10, 17, 13)], 1280, 183, 1279, 0),
  (⟨"SandHouseLaw", "keep", "(LSandHouse;II[J)I"⟩, method_15_code, 5, (some .int), [(0, 10, 13, 24), (0, 10, 17, 13)], 1287, 183, 1286, 0),
  (⟨"SandHouseLaw", "soak", "(LSandHouse;II[J)I"⟩, method_16_code, 5, (some .int), [(0, 10, 13, 24), (0, 10, 17, 13)], 1294, 183, 1293, 0),
  (⟨"SandHouseLaw", "trial", "(LSandHouse;II[J)I"⟩, method_17_code, 5, (some .int), [(0, 10, 13, 13), (0, 10, 17, 26)], 1301, 183, 1300, 0),
  (⟨"SandHouseLaw", "worth", "(LSandHouse;III[J)I"⟩, method_18_code, 6, (some .int), [(0, 12, 15, 24), (0, 12, 19, 13)], 1326, 183, 1325, 0),
  (⟨"SandHouseLaw", "stand", "(LSandHouse;IIZ[J)I"⟩, method_19_code, 6, (some .int), [(0, 12, 15, 13)], 1337, 183, 1336, 0),
  (⟨"SandHouseLaw", "two", "(LSandHouse;II[J)I"⟩, method_20_code, 5, (some .int), [(0, 10, 13, 13)], 1348, 183, 1347, 0),
  (⟨"SandHouseLaw", "keepers", "(LSandHouse;II[J)I"⟩, method_21_code, 5, (some .int), [(0, 10, 13, 13)], 1359, 183, 1358, 0),
  (⟨"SandHouseLaw", "chores", "(LSandHouse;IZ[J)I"⟩, method_22_code, 5, (some .int), [(0, 10, 13, 13)], 1378, 183, 1377, 0),
  (⟨"SandHouseLaw", "often", "(LSandHouse;II[J)I"⟩, method_23_code, 5, (some .int), [(0, 10, 13, 13)], 1399, 183, 1398, 0),
  (⟨"SandHouseLaw", "when", "(LSandHouse;I[J)I"⟩, method_24_code, 4, (some .int), [(0, 9, 12, 13)], 1419, 183, 1418, 0),
  (⟨"SandHouseLaw", "fades", "(LSandHouse;I[J)I"⟩, method_25_code, 4, (some .int), [(0, 9, 12, 13)], 1431, 183, 1430, 0),
  (⟨"SandHouseLaw", "later", "(LSandHouse;II[J)I"⟩, method_26_code, 5, (some .int), [(0, 10, 13, 24), (0, 10, 17, 13)], 1442, 183, 1441, 0),
  (⟨"SandHouseLaw", "towel", "(LSandHouse;III[J)I"⟩, method_27_code, 6, (some .int), [(0, 12, 15, 24), (0, 12, 19, 13)], 1454, 183, 1453, 0),
  (⟨"SandHouseLaw", "towelled", "(LSandHouse;II[J)I"⟩, method_28_code, 5, (some .int), [(0, 10, 13, 24), (0, 10, 17, 13)], 1467, 183, 1466, 0),
  (⟨"SandHouseLaw", "span", "(LSandHouse;IZ[J)I"⟩, method_29_code, 5, (some .int), [(0, 10, 13, 13)], 1480, 183, 1479, 0),
  (⟨"SandHouseLaw", "peak", "(LSandHouse;I[J)I"⟩, method_30_code, 4, (some .int), [(0, 9, 12, 13)], 1491, 183, 1490, 0),
  (⟨"SandHouseLaw", "carries", "(LSandHouse;IZ[J)I"⟩, method_31_code, 5, (some .int), [(0, 10, 13, 24)], 1502, 183, 1501, 0),
  (⟨"SandHouseLaw", "whose", "(LSandHouse;I[J)I"⟩, method_32_code, 4, (some .int), [(0, 9, 12, 24)], 1517, 183, 1516, 0),
  (⟨"SandHouseLaw", "share", "(LSandHouse;II[J)I"⟩, method_33_code, 5, (some .int), [(0, 10, 13, 24)], 1524, 183, 1523, 0),
  (⟨"SandHouseLaw", "itch", "(LSandHouse;I[J)I"⟩, method_34_code, 4, (some .int), [(0, 9, 12, 13)], 1532, 183, 1531, 0),
  (⟨"SandHouseLaw", "ways", "(LSandHouse;II[J)I"⟩, method_35_code, 5, (some .int), [(0, 10, 13, 24)], 1543, 183, 1542, 0),
  (⟨"SandHouseLaw", "cross", "(LSandHouse;II[J)I"⟩, method_36_code, 5, (some .int), [(0, 10, 13, 24), (0, 10, 17, 13)], 1554, 183, 1553, 0),
  (⟨"SandHouseLaw", "noon", "(LSandHouse;[J)I"⟩, method_37_code, 3, (some .int), [(0, 8, 11, 13)], 1566, 183, 1565, 0),
  (⟨"SandHouseLaw", "log", "(LSandHouse;II[J)I"⟩, method_38_code, 5, (some .int), [(0, 10, 13, 26)], 1589, 183, 1588, 0),
  (⟨"SandHouseLaw", "led", "(LSandHouse;II[J)I"⟩, method_39_code, 5, (some .int), [(0, 10, 13, 24), (0, 10, 17, 13)], 1598, 183, 1597, 0),
  (⟨"SandHouse", "<init>", "()V"⟩, prog_1_method_1_code, 1, none, [], 215, 184, 214, 0),
  (⟨"SandHouse", "feed", "(IIIII)I"⟩, prog_1_method_2_code, 6, (some .int), [], 609, 184, 607, 608),
  (⟨"SandHouse", "end", "(I)Z"⟩, prog_1_method_3_code, 2, (some .boolean), [], 617, 184, 615, 616),
  (⟨"SandHouse", "house", "()I"⟩, prog_1_method_4_code, 1, (some .int), [], 813, 184, 811, 812),
  (⟨"SandHouse", "law", "()I"⟩, prog_1_method_5_code, 1, (some .int), [], 1050, 184, 1048, 1049),
  (⟨"SandHouse", "fault", "()I"⟩, prog_1_method_6_code, 1, (some .int), [], 621, 184, 619, 620),
  (⟨"SandHouse", "room", "(II)I"⟩, prog_1_method_7_code, 3, (some .int), [], 1127, 184, 1125, 1126),
  (⟨"SandHouse", "sand", "(II)I"⟩, prog_1_method_8_code, 3, (some .int), [], 1189, 184, 1187, 1188),
  (⟨"SandHouse", "person", "(II)I"⟩, prog_1_method_9_code, 3, (some .int), [], 1201, 184, 1199, 1200),
  (⟨"SandHouse", "load", "(II)I"⟩, prog_1_method_10_code, 3, (some .int), [], 1215, 184, 1213, 1214),
  (⟨"SandHouse", "habit", "(II)I"⟩, prog_1_method_11_code, 3, (some .int), [], 1222, 184, 1220, 1221),
  (⟨"SandHouse", "rule", "(III)I"⟩, prog_1_method_12_code, 4, (some .int), [], 1229, 184, 1227, 1228),
  (⟨"SandHouse", "rounds", "(I)I"⟩, prog_1_method_13_code, 4, (some .int), [], 1241, 184, 1239, 1240),
  (⟨"SandHouse", "sweep", "(I)I"⟩, prog_1_method_14_code, 2, (some .int), [], 1260, 184, 1258, 1259),
  (⟨"SandHouse", "beat", "(I)I"⟩, prog_1_method_15_code, 2, (some .int), [], 1272, 184, 1270, 1271),
  (⟨"SandHouse", "tool", "(II)I"⟩, prog_1_method_16_code, 4, (some .int), [], 1284, 184, 1282, 1283),
  (⟨"SandHouse", "keep", "(II)I"⟩, prog_1_method_17_code, 4, (some .int), [], 1291, 184, 1289, 1290),
  (⟨"SandHouse", "soak", "(II)I"⟩, prog_1_method_18_code, 4, (some .int), [], 1298, 184, 1296, 1297),
  (⟨"SandHouse", "trial", "(II)I"⟩, prog_1_method_19_code, 3, (some .int), [], 1305, 184, 1303, 1304),
  (⟨"SandHouse", "worth", "(III)I"⟩, prog_1_method_20_code, 4, (some .int), [], 1330, 184, 1328, 1329),
  (⟨"SandHouse", "stand", "(IIZ)I"⟩, prog_1_method_21_code, 4, (some .int), [], 1341, 184, 1339, 1340),
  (⟨"SandHouse", "two", "(II)I"⟩, prog_1_method_22_code, 3, (some .int), [], 1352, 184, 1350, 1351),
  (⟨"SandHouse", "keepers", "(II)I"⟩, prog_1_method_23_code, 3, (some .int), [], 1363, 184, 1361, 1362),
  (⟨"SandHouse", "chores", "(IZ)I"⟩, prog_1_method_24_code, 4, (some .int), [], 1382, 184, 1380, 1381),
  (⟨"SandHouse", "often", "(II)I"⟩, prog_1_method_25_code, 3, (some .int), [], 1403, 184, 1401, 1402),
  (⟨"SandHouse", "when", "(I)I"⟩, prog_1_method_26_code, 2, (some .int), [], 1423, 184, 1421, 1422),
  (⟨"SandHouse", "clogs", "()I"⟩, prog_1_method_27_code, 1, (some .int), [], 625, 184, 623, 624),
  (⟨"SandHouse", "fades", "(I)I"⟩, prog_1_method_28_code, 2, (some .int), [], 1435, 184, 1433, 1434),
  (⟨"SandHouse", "later", "(II)I"⟩, prog_1_method_29_code, 3, (some .int), [], 1446, 184, 1444, 1445),
  (⟨"SandHouse", "towel", "(III)I"⟩, prog_1_method_30_code, 4, (some .int), [], 1458, 184, 1456, 1457),
  (⟨"SandHouse", "towelled", "(II)I"⟩, prog_1_method_31_code, 3, (some .int), [], 1471, 184, 1469, 1470),
  (⟨"SandHouse", "span", "(IZ)I"⟩, prog_1_method_32_code, 3, (some .int), [], 1484, 184, 1482, 1483),
  (⟨"SandHouse", "peak", "(I)I"⟩, prog_1_method_33_code, 2, (some .int), [], 1495, 184, 1493, 1494),
  (⟨"SandHouse", "carries", "(IZ)I"⟩, prog_1_method_34_code, 4, (some .int), [], 1506, 184, 1504, 1505),
  (⟨"SandHouse", "whose", "(I)I"⟩, prog_1_method_35_code, 2, (some .int), [], 1521, 184, 1519, 1520),
  (⟨"SandHouse", "share", "(II)I"⟩, prog_1_method_36_code, 5, (some .int), [], 1528, 184, 1526, 1527),
  (⟨"SandHouse", "blame", "()I"⟩, prog_1_method_37_code, 1, (some .int), [], 718, 184, 716, 717),
  (⟨"SandHouse", "itch", "(I)I"⟩, prog_1_method_38_code, 2, (some .int), [], 1536, 184, 1534, 1535),
  (⟨"SandHouse", "ways", "(II)I"⟩, prog_1_method_39_code, 3, (some .int), [], 1547, 184, 1545, 1546),
  (⟨"SandHouse", "cross", "(II)I"⟩, prog_1_method_40_code, 3, (some .int), [], 1558, 184, 1556, 1557),
  (⟨"SandHouse", "noon", "()I"⟩, prog_1_method_41_code, 4, (some .int), [], 1570, 184, 1568, 1569),
  (⟨"SandHouse", "heels", "(I)I"⟩, prog_1_method_42_code, 4, (some .int), [], 726, 184, 724, 725),
  (⟨"SandHouse", "log", "(II)I"⟩, prog_1_method_43_code, 3, (some .int), [], 1593, 184, 1591, 1592),
  (⟨"SandHouse", "led", "(II)I"⟩, prog_1_method_44_code, 3, (some .int), [], 1602, 184, 1600, 1601),
  (⟨"SandHouse", "seed", "(I)I"⟩, prog_1_method_45_code, 3, (some .int), [], 745, 184, 743, 744),
  (⟨"SandHouse", "undo", "()Z"⟩, prog_1_method_46_code, 1, (some .boolean), [], 749, 184, 747, 748),
  (⟨"SandHouse", "image", "()V"⟩, prog_1_method_47_code, 1, none, [], 763, 184, 761, 762),
  (⟨"SandHouse", "back", "()Z"⟩, prog_1_method_48_code, 1, (some .boolean), [], 783, 184, 781, 782),
  (⟨"SandHouse", "count", "(I)I"⟩, prog_1_method_49_code, 2, (some .int), [], 795, 184, 793, 794),
  (⟨"SandHouse", "needRoom", "(I)V"⟩, prog_1_method_50_code, 2, none, [], 1131, 184, 1130, 67),
  (⟨"SandHouse", "needPerson", "(I)V"⟩, prog_1_method_51_code, 2, none, [], 1193, 184, 1192, 72),
  (⟨"SandHouse", "needNumber", "(III)V"⟩, prog_1_method_52_code, 3, none, [], 1244, 184, 1243, 0),
  (⟨"SandHouse$Grains", "<init>", "()V"⟩, prog_2_method_1_code, 1, none, [], 367, 189, 366, 0),
  (⟨"SandHouse$Grains", "copyFrom", "(LSandHouse$Grains;)V"⟩, prog_2_method_2_code, 2, none, [], 633, 189, 632, 2),
  (⟨"SandHouse$Grains", "lyingIn", "(I)I"⟩, prog_2_method_3_code, 4, (some .int), [], 660, 189, 659, 8),
  (⟨"SandHouse$Grains", "carriedBy", "(I)I"⟩, prog_2_method_4_code, 4, (some .int), [], 656, 189, 655, 7),
  (⟨"SandHouse$Grains", "allLying", "()I"⟩, prog_2_method_5_code, 3, (some .int), [], 799, 189, 798, 29),
  (⟨"SandHouse$Grains", "allCarried", "()I"⟩, prog_2_method_6_code, 3, (some .int), [], 804, 189, 803, 30),
  (⟨"SandHouse$Grains", "hundredths", "(II)I"⟩, prog_2_method_7_code, 2, (some .int), [], 692, 189, 691, 0),
  (⟨"SandHouse$Grains", "draw", "()I"⟩, prog_2_method_8_code, 1, (some .int), [], 684, 189, 683, 12),
  (⟨"SandHouse$Grains", "comeOnto", "(II)V"⟩, prog_2_method_9_code, 4, none, [], 678, 189, 677, 11),
  (⟨"SandHouse$Grains", "comeInto", "(III)V"⟩, prog_2_method_10_code, 4, none, [], 935, 189, 934, 47),
  (⟨"SandHouse$Grains", "takeFrom", "(II)I"⟩, prog_2_method_11_code, 6, (some .int), [], 689, 189, 688, 13),
  (⟨"SandHouse$Grains", "beatOut", "(I)I"⟩, prog_2_method_12_code, 2, (some .int), [], 1276, 189, 1275, 77),
  (⟨"SandHouse$Grains", "takeOutOf", "(II)I"⟩, prog_2_method_13_code, 6, (some .int), [], 714, 189, 713, 17),
  (⟨"SandHouse$Grains", "fall", "(III)I"⟩, prog_2_method_14_code, 7, (some .int), [], 697, 189, 696, 14),
  (⟨"SandHouse$Grains", "cling", "(III)V"⟩, prog_2_method_15_code, 8, none, [], 701, 189, 700, 15),
  (⟨"SandHouse$Grains", "mostOf", "([II)I"⟩, prog_2_method_16_code, 6, (some .int), [], 1514, 189, 1513, 100),
  (⟨"SandHouse$Grains", "owners", "([II)I"⟩, prog_2_method_17_code, 5, (some .int), [], 1510, 189, 1509, 99),
  (⟨"SandHouse$Heels", "<init>", "()V"⟩, prog_3_method_1_code, 1, none, [], 445, 190, 444, 0),
  (⟨"SandHouse$Heels", "copyFrom", "(LSandHouse$Heels;)V"⟩, prog_3_method_2_code, 2, none, [], 758, 190, 757, 23),
  (⟨"SandHouse$Heels", "write", "(IIIII)V"⟩, prog_3_method_3_code, 7, none, [], 709, 190, 708, 16),
  (⟨"SandHouse$Heels", "get", "(II)I"⟩, prog_3_method_4_code, 3, (some .int), [], 738, 190, 737, 21),
  (⟨"SandHouse$Heels", "whoIn", "(I)I"⟩, prog_3_method_5_code, 4, (some .int), [], 734, 190, 733, 20),
  (⟨"SandHouse$Heels", "ledBack", "(II)I"⟩, prog_3_method_6_code, 6, (some .int), [], 1606, 190, 1605, 107),
  (⟨"SandHouse$Home", "<init>", "()V"⟩, prog_4_method_1_code, 1, none, [], 256, 186, 255, 0),
  (⟨"SandHouse$Home", "look", "(LSandHouse$Grains;II)V"⟩, prog_4_method_2_code, 5, none, [], 652, 186, 651, 6),
  (⟨"SandHouse$Home", "ruleOf", "(LSandHouse$Grains;III)I"⟩, prog_4_method_3_code, 5, (some .int), [], 1234, 186, 1233, 74),
  (⟨"SandHouse$Home", "sweepsOf", "(LSandHouse$Grains;I)I"⟩, prog_4_method_4_code, 3, (some .int), [], 1166, 186, 1165, 71),
  (⟨"SandHouse$Home", "goRound", "(LSandHouse$Grains;LSandHouse$Heels;)I"⟩, prog_4_method_5_code, 5, (some .int), [], 640, 186, 639, 3),
  (⟨"SandHouse$Home", "goOn", "(LSandHouse$Grains;ILSandHouse$Heels;)I"⟩, prog_4_method_6_code, 7, (some .int), [], 644, 186, 643, 4),
  (⟨"SandHouse$Home", "sweepOnce", "(LSandHouse$Grains;I)I"⟩, prog_4_method_7_code, 3, (some .int), [], 1264, 186, 1263, 76),
  (⟨"SandHouse$Home", "sweepInside", "(LSandHouse$Grains;)V"⟩, prog_4_method_8_code, 3, none, [], 1415, 186, 1414, 91),
  (⟨"SandHouse$Home", "inBeds", "(LSandHouse$Grains;)I"⟩, prog_4_method_9_code, 4, (some .int), [], 1318, 186, 1317, 80),
  (⟨"SandHouse$Home", "inside", "(LSandHouse$Grains;)I"⟩, prog_4_method_10_code, 4, (some .int), [], 1322, 186, 1321, 81),
  (⟨"SandHouse$Home", "mostInBeds", "(LSandHouse$Grains;)I"⟩, prog_4_method_11_code, 7, (some .int), [], 722, 186, 721, 18),
  (⟨"SandHouse$Home", "bedsAbove", "(LSandHouse$Grains;I)I"⟩, prog_4_method_12_code, 5, (some .int), [], 1540, 186, 1539, 101),
  (⟨"SandHouse$Home", "whoIsIn", "(LSandHouse$Grains;I)I"⟩, prog_4_method_13_code, 3, (some .int), [], 1152, 186, 1151, 68),
  (⟨"SandHouse$Home", "whoWasIn", "(LSandHouse$Grains;II)I"⟩, prog_4_method_14_code, 6, (some .int), [], 1156, 186, 1155, 69),
  (⟨"SandHouse$Home", "firstMeeting", "(LSandHouse$Grains;II)I"⟩, prog_4_method_15_code, 6, (some .int), [], 1563, 186, 1562, 103),
  (⟨"SandHouse$HouseReader", "<init>", "()V"⟩, prog_5_method_1_code, 1, none, [], 532, 194, 531, 0),
  (⟨"SandHouse$HouseReader", "read", "(LSandHouse$Tape;LSandHouse$Plan;LSandHouse$Grains;)I"⟩, prog_5_method_2_code, 5, (some .int), [], 817, 194, 816, 31),
  (⟨"SandHouse$HouseReader", "refuse", "(I)Z"⟩, prog_5_method_3_code, 2, (some .boolean), [], 892, 194, 891, 37),
  (⟨"SandHouse$HouseReader", "line", "(LSandHouse$Tape;)Z"⟩, prog_5_method_4_code, 2, (some .boolean), [], 831, 194, 830, 34),
  (⟨"SandHouse$HouseReader", "takeNumber", "(LSandHouse$Tape;II)Z"⟩, prog_5_method_5_code, 4, (some .boolean), [], 898, 194, 897, 38),
  (⟨"SandHouse$HouseReader", "takeRoom", "(LSandHouse$Tape;)Z"⟩, prog_5_method_6_code, 2, (some .boolean), [], 918, 194, 917, 43),
  (⟨"SandHouse$HouseReader", "takeTwo", "(LSandHouse$Tape;II)Z"⟩, prog_5_method_7_code, 4, (some .boolean), [], 910, 194, 909, 41),
  (⟨"SandHouse$HouseReader", "roomLine", "(LSandHouse$Tape;)Z"⟩, prog_5_method_8_code, 3, (some .boolean), [], 888, 194, 887, 36),
  (⟨"SandHouse$HouseReader", "doorLine", "(LSandHouse$Tape;)Z"⟩, prog_5_method_9_code, 2, (some .boolean), [], 906, 194, 905, 40),
  (⟨"SandHouse$HouseReader", "personLine", "(LSandHouse$Tape;)Z"⟩, prog_5_method_10_code, 6, (some .boolean), [], 914, 194, 913, 42),
  (⟨"SandHouse$HouseReader", "loadLine", "(LSandHouse$Tape;)Z"⟩, prog_5_method_11_code, 2, (some .boolean), [], 926, 194, 925, 45),
  (⟨"SandHouse$HouseReader", "sandLine", "(LSandHouse$Tape;)Z"⟩, prog_5_method_12_code, 3, (some .boolean), [], 931, 194, 930, 46),
  (⟨"SandHouse$HouseReader", "toolLine", "(LSandHouse$Tape;)Z"⟩, prog_5_method_13_code, 2, (some .boolean), [], 939, 194, 938, 48),
  (⟨"SandHouse$HouseReader", "keepsLine", "(LSandHouse$Tape;)Z"⟩, prog_5_method_14_code, 2, (some .boolean), [], 943, 194, 942, 49),
  (⟨"SandHouse$HouseReader", "wetLine", "(LSandHouse$Tape;)Z"⟩, prog_5_method_15_code, 2, (some .boolean), [], 947, 194, 946, 50),
  (⟨"SandHouse$HouseReader", "clogLine", "(LSandHouse$Tape;)Z"⟩, prog_5_method_16_code, 2, (some .boolean), [], 951, 194, 950, 51),
  (⟨"SandHouse$Image", "<init>", "()V"⟩, prog_6_method_1_code, 1, none, [], 486, 192, 485, 0),
  (⟨"SandHouse$Image", "take", "(LSandHouse$Home;LSandHouse$Grains;LSandHouse$Heels;)V"⟩, prog_6_method_2_code, 4, none, [], 767, 192, 766, 24),
  (⟨"SandHouse$Image", "give", "(LSandHouse$Home;LSandHouse$Grains;LSandHouse$Heels;)V"⟩, prog_6_method_3_code, 4, none, [], 787, 192, 786, 27),
  (⟨"SandHouse$Law", "<init>", "()V"⟩, prog_7_method_1_code, 1, none, [], 319, 188, 318, 0),
  (⟨"SandHouse$Law", "copyFrom", "(LSandHouse$Law;)V"⟩, prog_7_method_2_code, 2, none, [], 776, 188, 775, 26),
  (⟨"SandHouse$Law", "clear", "()V"⟩, prog_7_method_3_code, 1, none, [], 1058, 188, 1057, 55),
  (⟨"SandHouse$Law", "openLine", "(II)V"⟩, prog_7_method_4_code, 3, none, [], 1075, 188, 1074, 58),
  (⟨"SandHouse$Law", "closeLine", "()V"⟩, prog_7_method_5_code, 1, none, [], 1116, 188, 1115, 66),
  (⟨"SandHouse$Law", "write", "(I)V"⟩, prog_7_method_6_code, 2, none, [], 1099, 188, 1098, 63),
  (⟨"SandHouse$Law", "amountOf", "(I[I)I"⟩, prog_7_method_7_code, 5, (some .int), [], 664, 188, 663, 9),
  (⟨"SandHouse$Law", "unwritten", "(I[I)I"⟩, prog_7_method_8_code, 2, (some .int), [], 667, 188, 666, 0),
  (⟨"SandHouse$Law", "holds", "(I[I)Z"⟩, prog_7_method_9_code, 10, (some .boolean), [], 671, 188, 670, 10),
  (⟨"SandHouse$LawReader", "<init>", "()V"⟩, prog_8_method_1_code, 1, none, [], 563, 195, 562, 0),
  (⟨"SandHouse$LawReader", "read", "(LSandHouse$Tape;)I"⟩, prog_8_method_2_code, 3, (some .int), [], 1054, 195, 1053, 54),
  (⟨"SandHouse$LawReader", "refuse", "(I)Z"⟩, prog_8_method_3_code, 2, (some .boolean), [], 1069, 195, 1068, 57),
  (⟨"SandHouse$LawReader", "line", "(LSandHouse$Tape;)Z"⟩, prog_8_method_4_code, 3, (some .boolean), [], 1063, 195, 1062, 56),
  (⟨"SandHouse$LawReader", "condition", "(LSandHouse$Tape;I)Z"⟩, prog_8_method_5_code, 6, (some .boolean), [], 1085, 195, 1084, 60),
  (⟨"SandHouse$LawReader", "atom", "(LSandHouse$Tape;I)Z"⟩, prog_8_method_6_code, 5, (some .boolean), [], 1089, 195, 1088, 61),
  (⟨"SandHouse$LawReader", "negation", "(LSandHouse$Tape;I)Z"⟩, prog_8_method_7_code, 3, (some .boolean), [], 1095, 195, 1094, 62),
  (⟨"SandHouse$LawReader", "bracket", "(LSandHouse$Tape;I)Z"⟩, prog_8_method_8_code, 3, (some .boolean), [], 1103, 195, 1102, 64),
  (⟨"SandHouse$LawReader", "comparison", "(LSandHouse$Tape;)Z"⟩, prog_8_method_9_code, 6, (some .boolean), [], 1109, 195, 1108, 65),
  (⟨"SandHouse$Past", "<init>", "()V"⟩, prog_9_method_1_code, 1, none, [], 462, 191, 461, 0),
  (⟨"SandHouse$Past", "forget", "()V"⟩, prog_9_method_2_code, 1, none, [], 791, 191, 790, 28),
  (⟨"SandHouse$Past", "remember", "(LSandHouse$Grains;LSandHouse$Heels;)V"⟩, prog_9_method_3_code, 3, none, [], 1249, 191, 1248, 75),
  (⟨"SandHouse$Past", "recall", "(LSandHouse$Grains;LSandHouse$Heels;)Z"⟩, prog_9_method_4_code, 4, (some .boolean), [], 753, 191, 752, 22),
  (⟨"SandHouse$Plan", "<init>", "()V"⟩, prog_10_method_1_code, 1, none, [], 262, 187, 261, 0),
  (⟨"SandHouse$Plan", "copyFrom", "(LSandHouse$Plan;)V"⟩, prog_10_method_2_code, 2, none, [], 771, 187, 770, 25),
  (⟨"SandHouse$Plan", "leads", "(II)Z"⟩, prog_10_method_3_code, 3, (some .boolean), [], 922, 187, 921, 44),
  (⟨"SandHouse$Plan", "everybody", "()I"⟩, prog_10_method_4_code, 1, (some .int), [], 730, 187, 729, 19),
  (⟨"SandHouse$Plan", "step", "(II)I"⟩, prog_10_method_5_code, 3, (some .int), [], 648, 187, 647, 5),
  (⟨"SandHouse$Plan", "stepFrom", "(III)I"⟩, prog_10_method_6_code, 4, (some .int), [], 1160, 187, 1159, 70),
  (⟨"SandHouse$Plan", "roams", "(I)I"⟩, prog_10_method_7_code, 4, (some .int), [], 1207, 187, 1206, 73),
  (⟨"SandHouse$Plan", "minutesOf", "(I)I"⟩, prog_10_method_8_code, 4, (some .int), [], 1395, 187, 1394, 88),
  (⟨"SandHouse$Plan", "fewestDoors", "(II)I"⟩, prog_10_method_9_code, 7, (some .int), [], 1551, 187, 1550, 102),
  (⟨"SandHouse$Tape", "<init>", "()V"⟩, prog_11_method_1_code, 1, none, [], 223, 185, 222, 0),
  (⟨"SandHouse$Tape", "append", "(I)V"⟩, prog_11_method_2_code, 3, none, [], 613, 185, 612, 0),
  (⟨"SandHouse$Tape", "begin", "()V"⟩, prog_11_method_3_code, 1, none, [], 823, 185, 822, 32),
  (⟨"SandHouse$Tape", "advance", "()V"⟩, prog_11_method_4_code, 2, none, [], 827, 185, 826, 33),
  (⟨"SandHouse$Tape", "isNumber", "(I)Z"⟩, prog_11_method_5_code, 2, (some .boolean), [], 902, 185, 901, 39),
  (⟨"SandHouse$Tape", "isSign", "(C)Z"⟩, prog_11_method_6_code, 2, (some .boolean), [], 956, 185, 955, 52),
  (⟨"SandHouse$Tape", "isWord", "(Ljava/lang/String;)Z"⟩, prog_11_method_7_code, 2, (some .boolean), [], 1080, 185, 1079, 59),
  (⟨"SandHouse$Tape", "wordAmong", "(Ljava/lang/String;)I"⟩, prog_11_method_8_code, 6, (some .int), [], 836, 185, 835, 35),
  (⟨"SandHouse$Tape", "tellsNoons", "(II)Z"⟩, prog_11_method_9_code, 5, (some .boolean), [], 1574, 185, 1573, 104),
  (⟨"SandHouse$Tape", "noonRoom", "(I)I"⟩, prog_11_method_10_code, 2, (some .int), [], 1578, 185, 1577, 105),
  (⟨"SandHouse$Tape", "noonRound", "(I)I"⟩, prog_11_method_11_code, 2, (some .int), [], 1582, 185, 1581, 106),
  (⟨"SandHouse$Trials", "<init>", "()V"⟩, prog_12_method_1_code, 1, none, [], 517, 193, 516, 0),
  (⟨"SandHouse$Trials", "bedsBehind", "(LSandHouse$Home;I)I"⟩, prog_12_method_2_code, 4, (some .int), [], 1314, 193, 1313, 79),
  (⟨"SandHouse$Trials", "outcome", "(LSandHouse$Home;LSandHouse$Grains;II)I"⟩, prog_12_method_3_code, 6, (some .int), [], 1310, 193, 1309, 78),
  (⟨"SandHouse$Trials", "worthOf", "(LSandHouse$Home;LSandHouse$Grains;III)I"⟩, prog_12_method_4_code, 7, (some .int), [], 1334, 193, 1333, 82),
  (⟨"SandHouse$Trials", "bestRoom", "(LSandHouse$Home;LSandHouse$Grains;IIZ)I"⟩, prog_12_method_5_code, 11, (some .int), [], 1345, 193, 1344, 83),
  (⟨"SandHouse$Trials", "bestPair", "(LSandHouse$Home;LSandHouse$Grains;II)I"⟩, prog_12_method_6_code, 10, (some .int), [], 1356, 193, 1355, 84),
  (⟨"SandHouse$Trials", "fewestKeepers", "(LSandHouse$Home;LSandHouse$Grains;II)I"⟩, prog_12_method_7_code, 8, (some .int), [], 1368, 193, 1367, 85),
  (⟨"SandHouse$Trials", "quickestRooms", "(LSandHouse$Home;LSandHouse$Grains;I)I"⟩, prog_12_method_8_code, 10, (some .int), [], 1386, 193, 1385, 86),
  (⟨"SandHouse$Trials", "sweptOf", "(II)I"⟩, prog_12_method_9_code, 5, (some .int), [], 1391, 193, 1390, 87),
  (⟨"SandHouse$Trials", "seldomest", "(LSandHouse$Home;LSandHouse$Grains;II)I"⟩, prog_12_method_10_code, 6, (some .int), [], 1407, 193, 1406, 89),
  (⟨"SandHouse$Trials", "staysBelow", "(LSandHouse$Home;LSandHouse$Grains;III)Z"⟩, prog_12_method_11_code, 8, (some .boolean), [], 1411, 193, 1410, 90),
  (⟨"SandHouse$Trials", "firstInBeds", "(LSandHouse$Home;LSandHouse$Grains;I)I"⟩, prog_12_method_12_code, 5, (some .int), [], 1428, 193, 1427, 92),
  (⟨"SandHouse$Trials", "firstClogged", "(LSandHouse$Home;LSandHouse$Grains;)I"⟩, prog_12_method_13_code, 4, (some .int), [], 629, 193, 628, 1),
  (⟨"SandHouse$Trials", "sweepingsTill", "(LSandHouse$Home;LSandHouse$Grains;I)I"⟩, prog_12_method_14_code, 5, (some .int), [], 1439, 193, 1438, 93),
  (⟨"SandHouse$Trials", "bestMoment", "(LSandHouse$Home;LSandHouse$Grains;II)I"⟩, prog_12_method_15_code, 9, (some .int), [], 1450, 193, 1449, 94),
  (⟨"SandHouse$Trials", "towelWorth", "(LSandHouse$Home;LSandHouse$Grains;III)I"⟩, prog_12_method_16_code, 8, (some .int), [], 1462, 193, 1461, 95),
  (⟨"SandHouse$Trials", "bestTowel", "(LSandHouse$Home;LSandHouse$Grains;II)I"⟩, prog_12_method_17_code, 10, (some .int), [], 1475, 193, 1474, 96),
  (⟨"SandHouse$Trials", "extreme", "(LSandHouse$Home;LSandHouse$Grains;IZ)I"⟩, prog_12_method_18_code, 8, (some .int), [], 1488, 193, 1487, 97),
  (⟨"SandHouse$Trials", "steepest", "(LSandHouse$Home;LSandHouse$Grains;I)I"⟩, prog_12_method_19_code, 9, (some .int), [], 1499, 193, 1498, 98),
  (⟨"SandHouseModel", "throwsIf", "(ZI)Z"⟩, prog_14_method_2_code, 3, (some .boolean), [], 1889, 196, 1888, 145),
  (⟨"SandHouseModel", "in", "(III)Z"⟩, prog_14_method_3_code, 3, (some .boolean), [], 1904, 196, 1903, 0),
  (⟨"SandHouseModel", "has", "(II)Z"⟩, prog_14_method_4_code, 2, (some .boolean), [], 2094, 196, 2093, 0),
  (⟨"SandHouseModel", "<init>", "()V"⟩, prog_14_method_5_code, 1, none, [], 1615, 196, 1614, 0),
  (⟨"SandHouseModel", "image", "()V"⟩, prog_14_method_6_code, 2, none, [], 1678, 196, 1676, 1677),
  (⟨"SandHouseModel", "back", "()Z"⟩, prog_14_method_7_code, 2, (some .boolean), [], 1682, 196, 1680, 1681),
  (⟨"SandHouseModel", "remembers", "()V"⟩, prog_14_method_8_code, 2, none, [], 1972, 196, 1971, 157),
  (⟨"SandHouseModel", "undo", "()Z"⟩, prog_14_method_9_code, 2, (some .boolean), [], 1686, 196, 1684, 1685),
  (⟨"SandHouseModel", "rooms", "()I"⟩, prog_14_method_10_code, 1, (some .int), [], 1745, 196, 1744, 117),
  (⟨"SandHouseModel", "people", "()I"⟩, prog_14_method_11_code, 1, (some .int), [], 1783, 196, 1782, 124),
  (⟨"SandHouseModel", "roomAt", "(II)I"⟩, prog_14_method_12_code, 2, (some .int), [], 1765, 196, 1764, 0),
  (⟨"SandHouseModel", "personAt", "(II)I"⟩, prog_14_method_13_code, 2, (some .int), [], 1790, 196, 1789, 0),
  (⟨"SandHouseModel", "ofRoom", "(II)I"⟩, prog_14_method_14_code, 3, (some .int), [], 1908, 196, 1907, 147),
  (⟨"SandHouseModel", "of", "(II)I"⟩, prog_14_method_15_code, 3, (some .int), [], 1794, 196, 1793, 126),
  (⟨"SandHouseModel", "sets", "(III)V"⟩, prog_14_method_16_code, 4, none, [], 1787, 196, 1786, 125),
  (⟨"SandHouseModel", "roomOf", "(I)I"⟩, prog_14_method_17_code, 2, (some .int), [], 1920, 196, 1919, 150),
  (⟨"SandHouseModel", "grains", "(I)I"⟩, prog_14_method_18_code, 4, (some .int), [], 1815, 196, 1814, 131),
  (⟨"SandHouseModel", "here", "(I)I"⟩, prog_14_method_19_code, 2, (some .int), [], 1912, 196, 1911, 148),
  (⟨"SandHouseModel", "loadOf", "(I)I"⟩, prog_14_method_20_code, 2, (some .int), [], 1811, 196, 1810, 130),
  (⟨"SandHouseModel", "noRoom", "(I)Z"⟩, prog_14_method_21_code, 2, (some .boolean), [], 1901, 196, 1900, 146),
  (⟨"SandHouseModel", "noPerson", "(I)Z"⟩, prog_14_method_22_code, 2, (some .boolean), [], 1944, 196, 1943, 155),
  (⟨"SandHouseModel", "isIndoor", "(I)Z"⟩, prog_14_method_23_code, 2, (some .boolean), [], 2054, 196, 2053, 171),
  (⟨"SandHouseModel", "isDoor", "(II)Z"⟩, prog_14_method_24_code, 7, (some .boolean), [], 1798, 196, 1797, 127),
  (⟨"SandHouseModel", "draw", "(I)I"⟩, prog_14_method_25_code, 2, (some .int), [], 1984, 196, 1983, 160),
  (⟨"SandHouseModel", "feed", "(IIIII)I"⟩, prog_14_method_26_code, 7, (some .int), [], 1690, 196, 1688, 1689),
  (⟨"SandHouseModel", "end", "(I)Z"⟩, prog_14_method_27_code, 2, (some .boolean), [], 1694, 196, 1692, 1693),
  (⟨"SandHouseModel", "isAt", "(II)Z"⟩, prog_14_method_28_code, 3, (some .boolean), [], 1718, 196, 1717, 111),
  (⟨"SandHouseModel", "blanks", "()V"⟩, prog_14_method_29_code, 1, none, [], 1714, 196, 1713, 110),
  (⟨"SandHouseModel", "letters", "()V"⟩, prog_14_method_30_code, 1, none, [], 1726, 196, 1725, 113),
  (⟨"SandHouseModel", "isWord", "(Ljava/lang/String;)Z"⟩, prog_14_method_31_code, 4, (some .boolean), [], 1735, 196, 1734, 115),
  (⟨"SandHouseModel", "passes", "(Ljava/lang/String;)Z"⟩, prog_14_method_32_code, 2, (some .boolean), [], 1847, 196, 1846, 136),
  (⟨"SandHouseModel", "sign", "(I)Z"⟩, prog_14_method_33_code, 2, (some .boolean), [], 1863, 196, 1862, 140),
  (⟨"SandHouseModel", "figures", "(III)I"⟩, prog_14_method_34_code, 5, (some .int), [], 1762, 196, 1761, 120),
  (⟨"SandHouseModel", "number", "(II)I"⟩, prog_14_method_35_code, 3, (some .int), [], 1758, 196, 1757, 119),
  (⟨"SandHouseModel", "sortTold", "()I"⟩, prog_14_method_36_code, 1, (some .int), [], 1749, 196, 1748, 118),
  (⟨"SandHouseModel", "fault", "()I"⟩, prog_14_method_37_code, 1, (some .int), [], 1698, 196, 1696, 1697),
  (⟨"SandHouseModel", "uses", "()V"⟩, prog_14_method_38_code, 1, none, [], 1710, 196, 1709, 109),
  (⟨"SandHouseModel", "roomTold", "()I"⟩, prog_14_method_39_code, 1, (some .int), [], 1774, 196, 1773, 122),
  (⟨"SandHouseModel", "personTold", "()I"⟩, prog_14_method_40_code, 1, (some .int), [], 1807, 196, 1806, 129),
  (⟨"SandHouseModel", "readRoom", "()Z"⟩, prog_14_method_41_code, 5, (some .boolean), [], 1741, 196, 1740, 116),
  (⟨"SandHouseModel", "readDoor", "()Z"⟩, prog_14_method_42_code, 4, (some .boolean), [], 1770, 196, 1769, 121),
  (⟨"SandHouseModel", "readPerson", "()Z"⟩, prog_14_method_43_code, 5, (some .boolean), [], 1779, 196, 1778, 123),
  (⟨"SandHouseModel", "readLoad", "()Z"⟩, prog_14_method_44_code, 4, (some .boolean), [], 1803, 196, 1802, 128),
  (⟨"SandHouseModel", "readSand", "()Z"⟩, prog_14_method_45_code, 4, (some .boolean), [], 1821, 196, 1820, 132),
  (⟨"SandHouseModel", "readTool", "()Z"⟩, prog_14_method_46_code, 3, (some .boolean), [], 1826, 196, 1825, 133),
  (⟨"SandHouseModel", "readOf", "(II)Z"⟩, prog_14_method_47_code, 5, (some .boolean), [], 1831, 196, 1830, 134),
  (⟨"SandHouseModel", "readHouseLine", "()Z"⟩, prog_14_method_48_code, 1, (some .boolean), [], 1730, 196, 1729, 114),
  (⟨"SandHouseModel", "emits", "(II)V"⟩, prog_14_method_49_code, 3, none, [], 1868, 196, 1867, 141),
  (⟨"SandHouseModel", "readPart", "()Z"⟩, prog_14_method_50_code, 2, (some .boolean), [], 1880, 196, 1879, 144),
  (⟨"SandHouseModel", "readSum", "()Z"⟩, prog_14_method_51_code, 1, (some .boolean), [], 1876, 196, 1875, 143),
  (⟨"SandHouseModel", "readTag", "()Z"⟩, prog_14_method_52_code, 3, (some .boolean), [], 1872, 196, 1871, 142),
  (⟨"SandHouseModel", "readAtom", "()Z"⟩, prog_14_method_53_code, 2, (some .boolean), [], 1859, 196, 1858, 139),
  (⟨"SandHouseModel", "readAllOf", "()Z"⟩, prog_14_method_54_code, 1, (some .boolean), [], 1855, 196, 1854, 138),
  (⟨"SandHouseModel", "readCond", "()Z"⟩, prog_14_method_55_code, 1, (some .boolean), [], 1851, 196, 1850, 137),
  (⟨"SandHouseModel", "readLawLine", "(I)Z"⟩, prog_14_method_56_code, 3, (some .boolean), [], 1838, 196, 1837, 135),
  (⟨"SandHouseModel", "readLine", "(ZI)Z"⟩, prog_14_method_57_code, 3, (some .boolean), [], 1722, 196, 1721, 112),
  (⟨"SandHouseModel", "readAll", "(Z)I"⟩, prog_14_method_58_code, 3, (some .int), [], 1706, 196, 1705, 108),
  (⟨"SandHouseModel", "house", "()I"⟩, prog_14_method_59_code, 3, (some .int), [], 1702, 196, 1700, 1701),
  (⟨"SandHouseModel", "law", "()I"⟩, prog_14_method_60_code, 3, (some .int), [], 1893, 196, 1891, 1892),
  (⟨"SandHouseModel", "factOf", "(IIIIZ)I"⟩, prog_14_method_61_code, 6, (some .int), [], 1936, 196, 1935, 154),
  (⟨"SandHouseModel", "holdsLine", "(IIIZ)Z"⟩, prog_14_method_62_code, 12, (some .boolean), [], 1932, 196, 1931, 153),
  (⟨"SandHouseModel", "says", "(III)I"⟩, prog_14_method_63_code, 6, (some .int), [], 1928, 196, 1927, 152),
  (⟨"SandHouseModel", "peopleIn", "(I)I"⟩, prog_14_method_64_code, 4, (some .int), [], 1916, 196, 1915, 149),
  (⟨"SandHouseModel", "besideOf", "(I)I"⟩, prog_14_method_65_code, 4, (some .int), [], 1924, 196, 1923, 151),
  (⟨"SandHouseModel", "room", "(II)I"⟩, prog_14_method_66_code, 3, (some .int), [], 1897, 196, 1895, 1896),
  (⟨"SandHouseModel", "sand", "(II)I"⟩, prog_14_method_67_code, 3, (some .int), [], 1940, 196, 1938, 1939),
  (⟨"SandHouseModel", "roams", "(I)I"⟩, prog_14_method_68_code, 4, (some .int), [], 1952, 196, 1951, 156),
  (⟨"SandHouseModel", "person", "(II)I"⟩, prog_14_method_69_code, 3, (some .int), [], 1948, 196, 1946, 1947),
  (⟨"SandHouseModel", "load", "(II)I"⟩, prog_14_method_70_code, 3, (some .int), [], 1956, 196, 1954, 1955),
  (⟨"SandHouseModel", "habit", "(II)I"⟩, prog_14_method_71_code, 3, (some .int), [], 1960, 196, 1958, 1959),
  (⟨"SandHouseModel", "rule", "(III)I"⟩, prog_14_method_72_code, 4, (some .int), [], 1964, 196, 1962, 1963),
  (⟨"SandHouseModel", "moves", "(III)I"⟩, prog_14_method_73_code, 7, (some .int), [], 1989, 196, 1988, 161),
  (⟨"SandHouseModel", "partOf", "(II)I"⟩, prog_14_method_74_code, 5, (some .int), [], 1997, 196, 1996, 163),
  (⟨"SandHouseModel", "tells", "(IIII)V"⟩, prog_14_method_75_code, 6, none, [], 1993, 196, 1992, 162),
  (⟨"SandHouseModel", "goes", "(I)I"⟩, prog_14_method_76_code, 9, (some .int), [], 1980, 196, 1979, 159),
  (⟨"SandHouseModel", "round", "()I"⟩, prog_14_method_77_code, 3, (some .int), [], 1976, 196, 1975, 158),
  (⟨"SandHouseModel", "rounds", "(I)I"⟩, prog_14_method_78_code, 4, (some .int), [], 1968, 196, 1966, 1967),
  (⟨"SandHouseModel", "sweeps", "(I)I"⟩, prog_14_method_79_code, 2, (some .int), [], 2006, 196, 2005, 164),
  (⟨"SandHouseModel", "beats", "(I)I"⟩, prog_14_method_80_code, 2, (some .int), [], 2014, 196, 2013, 165),
  (⟨"SandHouseModel", "sweep", "(I)I"⟩, prog_14_method_81_code, 2, (some .int), [], 2002, 196, 2000, 2001),
  (⟨"SandHouseModel", "beat", "(I)I"⟩, prog_14_method_82_code, 2, (some .int), [], 2010, 196, 2008, 2009),
  (⟨"SandHouseModel", "told", "(II)I"⟩, prog_14_method_83_code, 4, (some .int), [], 2022, 196, 2021, 166),
  (⟨"SandHouseModel", "tool", "(II)I"⟩, prog_14_method_84_code, 3, (some .int), [], 2018, 196, 2016, 2017),
  (⟨"SandHouseModel", "keep", "(II)I"⟩, prog_14_method_85_code, 3, (some .int), [], 2026, 196, 2024, 2025),
  (⟨"SandHouseModel", "soak", "(II)I"⟩, prog_14_method_86_code, 3, (some .int), [], 2030, 196, 2028, 2029),
  (⟨"SandHouseModel", "keepsAll", "()V"⟩, prog_14_method_87_code, 2, none, [], 2038, 196, 2037, 167),
  (⟨"SandHouseModel", "bringsBack", "()V"⟩, prog_14_method_88_code, 2, none, [], 2062, 196, 2061, 173),
  (⟨"SandHouseModel", "runs", "(I)V"⟩, prog_14_method_89_code, 3, none, [], 2042, 196, 2041, 168),
  (⟨"SandHouseModel", "beds", "()I"⟩, prog_14_method_90_code, 3, (some .int), [], 2046, 196, 2045, 169),
  (⟨"SandHouseModel", "indoors", "()I"⟩, prog_14_method_91_code, 3, (some .int), [], 2050, 196, 2049, 170),
  (⟨"SandHouseModel", "loads", "()I"⟩, prog_14_method_92_code, 3, (some .int), [], 2058, 196, 2057, 172),
  (⟨"SandHouseModel", "trial", "(II)I"⟩, prog_14_method_93_code, 4, (some .int), [], 2034, 196, 2032, 2033),
  (⟨"SandHouseModel", "behind", "(IZ)I"⟩, prog_14_method_94_code, 4, (some .int), [], 2070, 196, 2069, 174),
  (⟨"SandHouseModel", "worth", "(III)I"⟩, prog_14_method_95_code, 5, (some .int), [], 2066, 196, 2064, 2065),
  (⟨"SandHouseModel", "noTool", "(II)Z"⟩, prog_14_method_96_code, 3, (some .boolean), [], 2078, 196, 2077, 175),
  (⟨"SandHouseModel", "stand", "(IIZ)I"⟩, prog_14_method_97_code, 8, (some .int), [], 2074, 196, 2072, 2073),
  (⟨"SandHouseModel", "two", "(II)I"⟩, prog_14_method_98_code, 8, (some .int), [], 2082, 196, 2080, 2081),
  (⟨"SandHouseModel", "noLimit", "(III)Z"⟩, prog_14_method_99_code, 4, (some .boolean), [], 2090, 196, 2089, 176),
  (⟨"SandHouseModel", "keepers", "(II)I"⟩, prog_14_method_100_code, 6, (some .int), [], 2086, 196, 2084, 2085),
  (⟨"SandHouseModel", "chores", "(IZ)I"⟩, prog_14_method_101_code, 11, (some .int), [], 2098, 196, 2096, 2097),
  (⟨"SandHouseModel", "sweepsAll", "()V"⟩, prog_14_method_102_code, 2, none, [], 2110, 196, 2109, 178),
  (⟨"SandHouseModel", "isOften", "(III)Z"⟩, prog_14_method_103_code, 6, (some .boolean), [], 2106, 196, 2105, 177),
  (⟨"SandHouseModel", "often", "(II)I"⟩, prog_14_method_104_code, 4, (some .int), [], 2102, 196, 2100, 2101),
  (⟨"SandHouseModel", "when", "(I)I"⟩, prog_14_method_105_code, 3, (some .int), [], 2114, 196, 2112, 2113),
  (⟨"SandHouseModel", "clogs", "()I"⟩, prog_14_method_106_code, 2, (some .int), [], 2118, 196, 2116, 2117),
  (⟨"SandHouseModel", "fades", "(I)I"⟩, prog_14_method_107_code, 3, (some .int), [], 2122, 196, 2120, 2121),
  (⟨"SandHouseModel", "later", "(II)I"⟩, prog_14_method_108_code, 7, (some .int), [], 2126, 196, 2124, 2125),
  (⟨"SandHouseModel", "towelOf", "(III)I"⟩, prog_14_method_109_code, 6, (some .int), [], 2134, 196, 2133, 179),
  (⟨"SandHouseModel", "towel", "(III)I"⟩, prog_14_method_110_code, 4, (some .int), [], 2130, 196, 2128, 2129),
  (⟨"SandHouseModel", "towelled", "(II)I"⟩, prog_14_method_111_code, 8, (some .int), [], 2138, 196, 2136, 2137),
  (⟨"SandHouseModel", "span", "(IZ)I"⟩, prog_14_method_112_code, 6, (some .int), [], 2142, 196, 2140, 2141),
  (⟨"SandHouseModel", "peak", "(I)I"⟩, prog_14_method_113_code, 7, (some .int), [], 2146, 196, 2144, 2145),
  (⟨"SandHouseModel", "mostOf", "(I)I"⟩, prog_14_method_114_code, 5, (some .int), [], 2154, 196, 2153, 180),
  (⟨"SandHouseModel", "carries", "(IZ)I"⟩, prog_14_method_115_code, 5, (some .int), [], 2150, 196, 2148, 2149),
  (⟨"SandHouseModel", "whose", "(I)I"⟩, prog_14_method_116_code, 2, (some .int), [], 2158, 196, 2156, 2157),
  (⟨"SandHouseModel", "share", "(II)I"⟩, prog_14_method_117_code, 4, (some .int), [], 2162, 196, 2160, 2161),
  (⟨"SandHouseModel", "blame", "()I"⟩, prog_14_method_118_code, 6, (some .int), [], 2167, 196, 2165, 2166),
  (⟨"SandHouseModel", "itch", "(I)I"⟩, prog_14_method_119_code, 4, (some .int), [], 2171, 196, 2169, 2170),
  (⟨"SandHouseModel", "ways", "(II)I"⟩, prog_14_method_120_code, 7, (some .int), [], 2175, 196, 2173, 2174),
  (⟨"SandHouseModel", "roomIn", "(II)I"⟩, prog_14_method_121_code, 4, (some .int), [], 2183, 196, 2182, 181),
  (⟨"SandHouseModel", "cross", "(II)I"⟩, prog_14_method_122_code, 4, (some .int), [], 2179, 196, 2177, 2178),
  (⟨"SandHouseModel", "roundTold", "(I)I"⟩, prog_14_method_123_code, 2, (some .int), [], 2191, 196, 2190, 182),
  (⟨"SandHouseModel", "noon", "()I"⟩, prog_14_method_124_code, 5, (some .int), [], 2187, 196, 2185, 2186),
  (⟨"SandHouseModel", "heels", "(I)I"⟩, prog_14_method_125_code, 6, (some .int), [], 2195, 196, 2193, 2194),
  (⟨"SandHouseModel", "log", "(II)I"⟩, prog_14_method_126_code, 3, (some .int), [], 2199, 196, 2197, 2198),
  (⟨"SandHouseModel", "led", "(II)I"⟩, prog_14_method_127_code, 6, (some .int), [], 2203, 196, 2201, 2202),
  (⟨"SandHouseModel", "seed", "(I)I"⟩, prog_14_method_128_code, 3, (some .int), [], 2207, 196, 2205, 2206),
  (⟨"SandHouseModel", "count", "(I)I"⟩, prog_14_method_129_code, 4, (some .int), [], 2211, 196, 2209, 2210),
  (⟨"java/lang/Math", "floorMod", "(II)I"⟩, prog_22_method_50_code, 3, (some .int), [], 741, 202, 740, 0),
  (⟨"java/lang/Integer", "bitCount", "(I)I"⟩, prog_21_method_49_code, 1, (some .int), [], 1372, 210, 1371, 0),
  (⟨"SandHouseModel", "thrown", "()I"⟩, prog_14_method_1_code, 1, (some .int), [], 1610, 196, 1608, 1609)]
def zxn : List String := ["java/lang/IllegalArgumentException", "java/lang/UnsupportedOperationException", "java/lang/IndexOutOfBoundsException", "java/util/NoSuchElementException"]
/-! WHAT THE TABLES SAY IS SO: each instruction is what the machine decodes there, each word stands in the Statement's tables -/
def zrk9 {α : Type} : Nat → List α → List (List α)
  | 0, _ => []
  | n + 1, l => l.take 32 :: zrk9 n (l.drop 32)
theorem zatn9 {α : Type} (i : Nat) : zat ([] : List α) i = none := by cases i <;> rfl
theorem zatk9 {α : Type} : ∀ (l : List α) (n i : Nat), i < n → zat (l.take n) i = zat l i
  | [], n, i, _ => by rw [List.take_nil]
  | _ :: _, 0, _, h => absurd h (Nat.not_lt_zero _)
  | _ :: _, _ + 1, 0, _ => rfl
  | _ :: l, n + 1, i + 1, h => zatk9 l n i (Nat.lt_of_succ_lt_succ h)
theorem zatd9 {α : Type} : ∀ (n : Nat) (l : List α) (i : Nat), zat (l.drop n) i = zat l (n + i)
  | 0, l, i => by rw [List.drop_zero, Nat.zero_add]
  | n + 1, [], i => by rw [List.drop_nil, zatn9, zatn9]
  | n + 1, a :: l, i => by
    rw [show n + 1 + i = (n + i) + 1 by omega]
    exact zatd9 n l i
theorem zrk9s {α : Type} : ∀ (n : Nat) (l : List α) (q r : Nat) (c : List α), r < 32 → zat (zrk9 n l) q = some c → zat c r = zat l (32 * q + r)
  | 0, l, q, r, c, _, h => by
    rw [show zrk9 0 l = [] from rfl, zatn9] at h
    cases h
  | n + 1, l, 0, r, c, hr, h => by
    have h : some (l.take 32) = some c := h
    injection h with h
    rw [← h, zatk9 _ _ _ hr, Nat.mul_zero, Nat.zero_add]
  | n + 1, l, q + 1, r, c, hr, h => by
    have h : zat (zrk9 n (l.drop 32)) q = some c := h
    rw [zrk9s n (l.drop 32) q r c hr h, zatd9, show 32 * (q + 1) + r = 32 + (32 * q + r) by omega]
/-- the tables' words in rows of 32 -/
def zwt : List (List Jvm.Cond) := zrk9 96 lw_tbl
def zbytq : List UInt8 → List UInt8 → Bool
  | [], [] => true
  | a :: l, b :: m => Nat.beq a.toNat b.toNat && zbytq l m
  | _, _ => false
theorem zbytq_s : ∀ {a b : List UInt8}, zbytq a b = true → a = b
  | [], [], _ => rfl
  | [], _ :: _, h => Bool.noConfusion (show false = true from h)
  | _ :: _, [], h => Bool.noConfusion (show false = true from h)
  | x :: l, y :: m, h => by
    have h : (Nat.beq x.toNat y.toNat && zbytq l m) = true := h
    rw [Bool.and_eq_true] at h
    rw [UInt8.toNat_inj.mp (Nat.eq_of_beq_eq_true h.1), zbytq_s h.2]
theorem zbyta_s : ∀ {a b : ByteArray}, zbytq a.data.toList b.data.toList = true → a = b
  | ⟨⟨l⟩⟩, ⟨⟨m⟩⟩, h => by
    have e : l = m := zbytq_s h
    rw [e]
/-- a word is that one; a code's bytes one by one as numbers -/
def zceq (a c : Jvm.Cond) : Bool := match c with
  | .code y b m r => (match a with
    | .code y2 b2 m2 r2 => decide (y2 = y) && (zbytq b2.data.toList b.data.toList && (Nat.beq m2 m && decide (r2 = r)))
    | _ => false)
  | .codeWith y b m r x => (match a with
    | .codeWith y2 b2 m2 r2 x2 => decide (y2 = y) && (zbytq b2.data.toList b.data.toList && (Nat.beq m2 m && (decide (r2 = r) && decide (x2 = x))))
    | _ => false)
  | c => decide (a = c)
theorem zceq_s {a c : Jvm.Cond} (h : zceq a c = true) : a = c := by
  cases c with
  | code y b m r =>
    cases a with
    | code y2 b2 m2 r2 =>
      have h : (decide (y2 = y) && (zbytq b2.data.toList b.data.toList && (Nat.beq m2 m && decide (r2 = r)))) = true := h
      rw [Bool.and_eq_true, Bool.and_eq_true, Bool.and_eq_true] at h
      obtain ⟨h1, h2, h3, h4⟩ := h
      rw [of_decide_eq_true h1, zbyta_s h2, Nat.eq_of_beq_eq_true h3, of_decide_eq_true h4]
    | _ => exact Bool.noConfusion (show false = true from h)
  | codeWith y b m r x =>
    cases a with
    | codeWith y2 b2 m2 r2 x2 =>
      have h : (decide (y2 = y) && (zbytq b2.data.toList b.data.toList && (Nat.beq m2 m && (decide (r2 = r) && decide (x2 = x))))) = true := h
      rw [Bool.and_eq_true, Bool.and_eq_true, Bool.and_eq_true, Bool.and_eq_true] at h
      obtain ⟨h1, h2, h3, h4, h5⟩ := h
      rw [of_decide_eq_true h1, zbyta_s h2, Nat.eq_of_beq_eq_true h3, of_decide_eq_true h4, of_decide_eq_true h5]
    | _ => exact Bool.noConfusion (show false = true from h)
  | _ => exact of_decide_eq_true h
def zwd1 (o : Option Jvm.Cond) (c : Jvm.Cond) : Bool := match o with
  | some a => zceq a c
  | none => false
def zwd2 (o : Option (List Jvm.Cond)) (r : Nat) (c : Jvm.Cond) : Bool := match o with
  | some l => zwd1 (zat l r) c
  | none => false
def zwd (w : Nat) (c : Jvm.Cond) : Bool := zwd2 (zat zwt (w / 32)) (w % 32) c
theorem zwd_s {w : Nat} {c : Jvm.Cond} (h : zwd w c = true) : zat lw_tbl w = some c := by
  have h : zwd2 (zat zwt (w / 32)) (w % 32) c = true := h
  cases h1 : zat zwt (w / 32) with
  | none =>
    rw [h1] at h
    exact Bool.noConfusion (show false = true from h)
  | some l =>
    rw [h1] at h
    have h : zwd1 (zat l (w % 32)) c = true := h
    cases h2 : zat l (w % 32) with
    | none =>
      rw [h2] at h
      exact Bool.noConfusion (show false = true from h)
    | some a =>
      rw [h2] at h
      have e := zrk9s 96 lw_tbl (w / 32) (w % 32) l (Nat.mod_lt _ (by decide)) h1
      rw [Nat.div_add_mod, h2] at e
      rw [← e, zceq_s (show zceq a c = true from h)]
def zaty (t : Nat) : FieldType := match t with
  | 0 => .int
  | 1 => .byte
  | 2 => .long
  | 3 => .object RX0
  | _ => .object RX1
def zcty (ci k : Nat) : FieldType := match ci with
  | 0 => tyX0 k
  | 1 => tyX1 k
  | 2 => tyX2 k
  | 3 => tyX3 k
  | 4 => tyX4 k
  | 5 => tyX5 k
  | 6 => tyX6 k
  | 7 => tyX7 k
  | 8 => tyX8 k
  | 9 => tyX9 k
  | 10 => tyX10 k
  | 11 => tyX11 k
  | _ => tyX12 k
def zxi (x : Nat) : Nat := match x with
  | 0 => 95
  | 1 => 107
  | 2 => 399
  | _ => 169
/-- the targets of a switch: from lo on -/
def zswchk (pc : Nat) : List Int → Int → List (Int32 × Nat) → Bool
  | [], _, [] => true
  | o :: os, lo, (x, t) :: l => decide (x.toInt = lo) && decide ((pc : Int) + o = (t : Int)) && zswchk pc os (lo + 1) l
  | _, _, _ => false
def zflchk (own : String) (i a1 a2 a3 w : Nat) : Bool := match zat vwCl a1 with
  | some (_, T, N) => Nat.blt a2 N && (match a3 with
    | 0 => zwd w (Jvm.Cond.fieldLink own i (T a2).1 (T a2).2.1 (T a2).2.2.1)
    | _ => zwd w (Jvm.Cond.fieldLinkNest own i (T a2).1 (T a2).2.1 (T a2).2.2.1 "SandHouse"))
  | none => false
def zmlchk (own : String) (i a2 a3 w : Nat) (y : MethodName) : Bool := match a3 with
  | 0 => zwd w (Jvm.Cond.methodLink own i y)
  | _ => zwd w (Jvm.Cond.methodLinkNest own i y "SandHouse")
/-- an instruction's length; a switch's is its own -/
def zlen (ln : Nat) : Instr → Nat
  | .tableswitch .. => ln
  | .iload _ => 2
  | .lload _ => 2
  | .aload _ => 2
  | .istore _ => 2
  | .lstore _ => 2
  | .astore _ => 2
  | .bipush _ => 2
  | .ldc _ => 2
  | .newarray _ => 2
  | .sipush _ => 3
  | .ldc_w _ => 3
  | .ldc2_w _ => 3
  | .iinc .. => 3
  | .goto _ => 3
  | .ifCond .. => 3
  | .if_icmp .. => 3
  | .ifnull _ => 3
  | .ifnonnull _ => 3
  | .getfield _ => 3
  | .putfield _ => 3
  | .new _ => 3
  | .anewarray _ => 3
  | .invokevirtual _ => 3
  | .invokespecial _ => 3
  | .invokestatic _ => 3
  | .getstatic _ => 3
  | _ => 1
def zich2 (own name : String) (cc : ByteArray) (mL pc a1 a2 a3 : Nat) (z : Int32) (w : Nat) (ins : Instr) : Bool := (match ins with
    | .iconst n => decide (Int32.ofInt n = z)
    | .bipush n => decide ((Int8.ofInt n).toInt32 = z)
    | .sipush n => decide ((Int16.ofInt n).toInt32 = z)
    | .lconst n => decide (Int64.ofNat (n : Nat) = z.toInt64)
    | .ldc2_w i => zwd w (Jvm.Cond.constantLong own i z.toInt64)
    | .ldc i => (match a1 with
      | 0 => zwd w (Jvm.Cond.constant own i z)
      | 1 => (match zat zsref a2 with
        | some (o, k, _) => decide (o = own) && Nat.beq k i
        | none => false)
      | _ => true)
    | .ldc_w i => (match a1 with
      | 0 => zwd w (Jvm.Cond.constant own i z)
      | _ => true)
    | .iinc i n => decide (Int32.ofInt n = z) && Nat.blt i mL
    | .istore i => Nat.blt i mL
    | .istore_n i => Nat.blt i.val mL
    | .astore i => Nat.blt i mL
    | .astore_n i => Nat.blt i.val mL
    | .lstore i => Nat.blt (i + 1) mL
    | .lstore_n i => Nat.blt (i.val + 1) mL
    | .goto off => decide ((pc : Int) + off = (a1 : Int))
    | .ifCond _ off => decide ((pc : Int) + off = (a1 : Int))
    | .if_icmp _ off => decide ((pc : Int) + off = (a1 : Int))
    | .ifnull off => decide ((pc : Int) + off = (a1 : Int))
    | .ifnonnull off => decide ((pc : Int) + off = (a1 : Int))
    | .tableswitch df lo hi offs => (match zat zsws a1 with
      | some (l, t) => decide ((pc : Int) + df = (t : Int)) && zswchk pc offs.toList lo l && decide (lo + (offs.size : Int) = hi + 1)
      | none => false)
    | .getfield i => zflchk own i a1 a2 a3 w
    | .putfield i => zflchk own i a1 a2 a3 w && (match zat vwCl a1 with
      | some (_, T, _) => ((T a2).2.2.2 == false || (Nat.beq a3 0 && decide (own = (T a2).1) && decide (name = "<init>")))
      | none => false) && decide (z = (match zcty a1 a2 with
      | .boolean => 1
      | _ => 0))
    | .new i => (match a1 with
      | 0 => (match zat vwCl a2 with
        | some (C, _, _) => zwd w (Jvm.Cond.classLink own i C)
        | none => false)
      | _ => (match zat zsref a3, zat zxn a2 with
        | some (o, k, _), some X => decide (o = own) && decide (own = "SandHouse") && zwd w (Jvm.Cond.classLink own i X) && decide (decode cc (pc + 3) = .ok (.dup, 1)) &&
          cond (decide (z = 0)) (decide (decode cc (pc + 4) = .ok (.ldc k, 2)) && decide (decode cc (pc + 6) = .ok (.invokespecial (zxi a2), 3)) && decide (decode cc (pc + 9) = .ok (.athrow, 1)))
            (decide (decode cc (pc + 4) = .ok (.ldc_w k, 3)) && decide (decode cc (pc + 7) = .ok (.invokespecial (zxi a2), 3)) && decide (decode cc (pc + 10) = .ok (.athrow, 1)))
        | _, _ => false))
    | .newarray t => Nat.blt a1 3 && decide (newarray.typeOf t = zaty a1) && zwd w (Jvm.Cond.arrayClass (zaty a1))
    | .anewarray i => (match a1 with
      | 3 => zwd w (Jvm.Cond.classLink own i RX0) && zwd a2 (Jvm.Cond.arrayOver (.object RX0))
      | 4 => zwd w (Jvm.Cond.classLink own i RX1) && zwd a2 (Jvm.Cond.arrayOver (.object RX1))
      | _ => false)
    | .invokevirtual i => (match a1 with
      | 0 => (match zat zmn a2, zat zmi a2 with
        | some (y, _), some (_, _, 0, _) => zmlchk own i a2 a3 w y && decide (y.name ≠ "<init>")
        | _, _ => false)
      | 4 => zwd w (Jvm.Cond.methodLink own i ⟨"java/lang/String", "length", "()I"⟩)
      | 5 => zwd w (Jvm.Cond.methodLink own i ⟨"java/lang/String", "charAt", "(I)C"⟩)
      | _ => false)
    | .invokespecial i => (match a1 with
      | 0 => (match zat zmn a2, zat zmi a2 with
        | some (y, _), some (_, _, 0, _) => zmlchk own i a2 a3 w y && decide (y.name = "<init>")
        | _, _ => false)
      | 1 => zwd w (Jvm.Cond.methodLink own i objectInit)
      | 9 => true
      | _ => false)
    | .invokestatic i => (match a1 with
      | 0 => (match zat zmn a2, zat zmi a2 with
        | some (y, _), some (_, _, 1, _) => zmlchk own i a2 a3 w y
        | _, _ => false)
      | 2 => zwd w (Jvm.Cond.methodLink own i Lib.Math.min.name)
      | 3 => zwd w (Jvm.Cond.methodLink own i Lib.Math.max.name)
      | 6 => zwd w (Jvm.Cond.methodLink own i arraycopyName)
      | _ => false)
    | _ => true)
def zichk (own name : String) (cc : ByteArray) (mL pc : Nat) (zi : ZI) : Bool := match zi with
  | (ins, ln, (a1, a2, a3), z, w) => decide (decode cc pc = .ok (ins, ln)) && Nat.beq ln (zlen ln ins) && zich2 own name cc mL pc a1 a2 a3 z w ins
def zmchk (own name : String) (cc : ByteArray) (mL : Nat) (rows : List (List (Nat × ZI))) : Bool := rows.all fun l => l.all fun q => zichk own name cc mL q.1 q.2
def zgchk : Nat → List (List (List (Nat × ZI))) → Bool
  | _, [] => true
  | b, rows :: l => (match zat zmn b with
    | some (y, cc, mL, _) => zmchk y.cls y.name cc mL rows
    | none => false) && zgchk (b + 1) l
/-- a method's own words; law (0) has none -/
def zmok (j : Nat) : Bool := match zat zmn j, zat zmi j with
  | some (y, cc, mL, ret, hh, wc, wi, wk, wsl), some (na, mL', stc, ci, rk, kd) =>
    Nat.beq mL mL' && Nat.ble mL 16 && Nat.ble na mL && plainName y.cls && decide (y.cls ≠ "java/lang/invoke/MethodHandle") && decide (y.cls ≠ "java/lang/invoke/VarHandle") &&
    decide ((parseMethodDescriptor y.desc).map (fun d => d.parameters.length) = some (na - (1 - stc))) &&
    (match rk with
    | 0 => decide (ret = none)
    | 1 => decide (ret = some .int)
    | 2 => decide (ret = some .boolean)
    | _ => false) &&
    (match kd with
    | 0 => decide (hh = []) && zwd wc (Jvm.Cond.code y cc mL ret)
    | _ => zwd wc (Jvm.Cond.codeWith y cc mL ret hh)) &&
    zwd wi (Jvm.Cond.initialized y.cls) &&
    (match stc with
    | 0 => Nat.ble 1 na && zwd wk (Jvm.Cond.instanceMethod y) && (decide (y.name = "<init>") || zwd wsl (Jvm.Cond.selects y.cls y y)) && (match zat vwCl ci with
      | some (C, _, _) => decide (C = y.cls)
      | none => false)
    | _ => zwd wk (Jvm.Cond.static y))
  | _, _ => false
