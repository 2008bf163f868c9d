/-! WHAT THE TABLES OF THE MACHINE ARE HELD TO: every entry decodes from the method's bytes, every name is resolved by a word of the tables. -/
def vh_mc (j : Nat) : Nat := vh_mcL.getD j 99
def vh_ln (i : Instr) (x : Nat) : Nat := match i with
  | .bipush _ | .ldc _ | .iload _ | .lload _ | .aload _ | .istore _ | .lstore _ | .astore _ | .newarray _ => 2
  | .sipush _ | .ldc_w _ | .ldc2_w _ | .iinc _ _ | .ifCond _ _ | .if_icmp _ _ | .goto _ | .getfield _ | .putfield _ | .getstatic _ | .new _ | .anewarray _ | .invokespecial _ | .invokevirtual _ | .invokestatic _ => 3
  | .tableswitch _ _ _ _ => x
  | _ => 1
def vh_nls (ls : List Nat) (k : Nat) : Bool := ls.all (fun i => !(Nat.beq (i + 1) k))
def vh_wd (p : Nat) (c : Cond) : Bool := decide (lw_tbl[p]? = some c) && goodWord c
def vh_nw (p : Nat) (c : Cond) : Bool := decide (vh_nest[p]? = some c)
def vh_gcall (own : String) (idx K fr lo x p : Nat) : Bool := match vh_mt[x]? with
  | some (y, _, mL, _, kd, fr', lo', _) => (Nat.beq kd K && (Nat.ble (fr' + 1) fr && Nat.ble (8 + (mL + 11) + lo') lo)) && (bif Nat.blt p 10000 then vh_wd p (.methodLink own idx y) else vh_nw (p - 10000) (.methodLinkNest own idx y "VillageHalls"))
  | none => false
def vh_gfld (own : String) (idx x p : Nat) : Bool := match vwCl[x / 64]? with
  | some (C, T, N) => Nat.blt (x % 64) N && (bif Nat.blt p 10000 then vh_wd p (.fieldLink own idx C (T (x % 64)).2.1 (T (x % 64)).2.2.1) else vh_nw (p - 10000) (.fieldLinkNest own idx C (T (x % 64)).2.1 (T (x % 64)).2.2.1 "VillageHalls"))
  | none => false
def vh_gfin (own nm : String) (x p : Nat) : Bool := match vwCl[x / 64]? with
  | some (_, T, _) => !(T (x % 64)).2.2.2 || (Nat.blt p 10000 && (decide (nm = "<init>") && decide ((T (x % 64)).1 = own)))
  | none => false
def vh_gd (own nm : String) (mL fr lo : Nat) (ls : List Nat) (e : vh_O) : Bool :=
  match e with
  | (pc, i, x, p) =>
  match i with
  | .istore k => Nat.blt k mL && vh_nls ls k
  | .istore_n k => Nat.blt k mL && vh_nls ls k
  | .astore k => Nat.blt k mL && vh_nls ls k
  | .astore_n k => Nat.blt k mL && vh_nls ls k
  | .iinc k _ => Nat.blt k mL && vh_nls ls k
  | .lstore k => Nat.blt (k + 1) mL && (vh_nls ls k && ls.elem k)
  | .lstore_n k => Nat.blt (k + 1) mL && (vh_nls ls k && ls.elem (k : Nat))
  | .ldc idx => bif Nat.blt x 1000 then vh_wd p (.constant own idx (vh_kiL.getD x 0)) else (bif Nat.blt x 1012 then decide (own = "VillageHalls$RuleReader") && decide (vh_stxL[x - 1000]? = some idx) else true)
  | .ldc_w idx => vh_wd p (.constant own idx (vh_kiL.getD x 0))
  | .ldc2_w idx => vh_wd p (.constantLong own idx (vh_kjL.getD x 0))
  | .ifCond _ off => decide ((pc : Int) + off = (x : Int))
  | .if_icmp _ off => decide ((pc : Int) + off = (x : Int))
  | .goto off => decide ((pc : Int) + off = (x : Int))
  | .tableswitch d lo hi offs => decide (0 ≤ (pc : Int) + d) && (decide (offs.size = (hi - lo + 1).toNat) && (decide (lo ≤ hi) && offs.toList.all (fun o => decide (0 ≤ (pc : Int) + o))))
  | .getfield idx => bif Nat.beq x 5000 then vh_wd p (.fieldLink own idx "java/lang/String" "value" "[B") else bif Nat.beq x 5001 then vh_wd p (.fieldLink own idx "java/lang/String" "coder" "B") else vh_gfld own idx x p
  | .putfield idx => vh_gfld own idx x p && vh_gfin own nm x p
  | .getstatic idx => bif Nat.beq x 0 then vh_wd p (.fieldLink own idx "java/lang/String" "COMPACT_STRINGS" "Z") else vh_wd p (.fieldLink own idx "jdk/internal/util/Preconditions" "SIOOBE_FORMATTER" "Ljava/util/function/BiFunction;")
  | .new idx => (match vwCl[x]? with
    | some (C, _, _) => vh_wd p (.classLink own idx C)
    | none => Nat.ble 12 x)
  | .newarray t => decide ((t = .int ∧ x = 20) ∨ (t = .boolean ∧ x = 21) ∨ (t = .long ∧ x = 22))
  | .anewarray idx => (Nat.beq x 23 && vh_wd p (.classLink own idx "VillageHalls$Hall")) || (Nat.beq x 24 && vh_wd p (.classLink own idx "VillageHalls$Booking"))
  | .invokespecial idx => bif Nat.beq x 9999 then vh_wd p (.methodLink own idx objectInit) && (Nat.ble 1 fr && Nat.ble 20 lo) else vh_gcall own idx 2 fr lo x p
  | .invokevirtual idx => vh_gcall own idx 1 fr lo x p
  | .invokestatic idx => bif Nat.beq x 9998 then vh_wd p (.methodLink own idx arraycopyName) && (Nat.ble 1 fr && Nat.ble 40 lo) else bif Nat.beq x 9997 then vh_wd p (.methodLink own idx Lib.Math.max.name) && (Nat.ble 1 fr && Nat.ble 40 lo) else bif Nat.beq x 9996 then vh_wd p (.methodLink own idx Lib.Math.min.name) && (Nat.ble 1 fr && Nat.ble 40 lo) else bif Nat.beq x 9995 then vh_wd p (.methodLink own idx Lib.MathLoose.max_long.x) && (Nat.ble 1 fr && Nat.ble 40 lo) else (bif Nat.beq x 99999 then true else vh_gcall own idx 0 fr lo x p)
  | _ => true
def vh_good (row : vh_M) (ls : List Nat) (e : vh_O) : Bool := match row with
  | (y, b, mL, _, _, fr, lo, _) => decide (decode b e.1 = .ok (e.2.1, vh_ln e.2.1 e.2.2.1)) && vh_gd y.cls y.name mL fr lo ls e
def vh_mgd (j : Nat) (row : vh_M) (p : Nat × Nat × Nat × Nat) : Bool := match row with
  | (y, b, mL, rt, kd, _, _, na) =>
    (vh_wd p.1 (.code y b mL rt) && vh_wd p.2.1 (.initialized y.cls)) &&
    ((bif Nat.beq kd 0 then vh_wd p.2.2.1 (.static y) else bif Nat.beq kd 1 then vh_wd p.2.2.1 (.instanceMethod y) && vh_wd p.2.2.2 (.selects y.cls y y) else (Nat.beq kd 2 && vh_wd p.2.2.1 (.instanceMethod y)) && (decide (y.name = "<init>") && decide (rt = none))) &&
    ((plainName y.cls && (decide (y.cls ≠ "java/lang/invoke/MethodHandle") && decide (y.cls ≠ "java/lang/invoke/VarHandle"))) &&
    ((decide ((parseMethodDescriptor y.desc).map (fun d => d.parameters.length) = some (bif Nat.beq kd 0 then na else na - 1)) && (Nat.beq kd 0 || Nat.ble 1 na)) &&
    (Nat.beq kd 0 || (bif Nat.beq (vh_mc j) 98 then decide (y.cls = "java/lang/String") else match vwCl[vh_mc j]? with
      | some (C, _, _) => decide (y.cls = C)
      | none => false)))))
def vh_mp : List (Nat × Nat × Nat × Nat) := [(91, 68, 90, 0), (99, 69, 98, 0), (114, 68, 113, 0), (120, 70, 119, 0), (163, 71, 162, 0), (188, 72, 187, 0), (223, 73, 222, 0), (230, 74, 229, 0), (315, 75, 314, 0), (345, 76, 344, 0), (372, 77, 371, 0), (395, 78, 394, 0), (459, 68, 457, 458), (462, 69, 461, 0), (465, 68, 464, 0), (471, 68, 470, 0), (476, 69, 474, 475), (480, 68, 479, 1), (484, 68, 482, 483), (488, 69, 486, 487), (492, 69, 490, 491), (496, 69, 494, 495), (500, 68, 498, 499), (504, 69, 502, 503), (508, 69, 506, 507), (515, 68, 513, 514), (519, 69, 517, 518), (523, 68, 521, 522), (527, 71, 525, 526), (532, 71, 530, 531), (536, 68, 534, 535), (540, 72, 538, 539), (544, 70, 542, 543), (548, 71, 546, 547), (552, 71, 550, 551), (556, 71, 555, 2), (560, 72, 559, 3), (565, 71, 563, 564), (569, 81, 567, 568), (573, 81, 571, 572), (579, 81, 577, 578), (583, 81, 581, 582), (586, 82, 585, 0), (589, 81, 588, 0), (594, 83, 593, 0), (617, 72, 616, 4), (622, 72, 621, 5), (626, 71, 624, 625), (630, 72, 629, 6), (634, 72, 633, 7), (645, 72, 644, 8), (649, 72, 648, 9), (653, 72, 652, 10), (657, 72, 656, 11), (666, 72, 665, 12), (670, 70, 668, 669), (674, 72, 673, 13), (678, 72, 677, 14), (682, 71, 680, 681), (688, 68, 686, 687), (692, 68, 690, 691), (695, 68, 694, 0), (699, 70, 697, 698), (705, 68, 703, 704), (709, 73, 707, 708), (713, 73, 711, 712), (717, 74, 715, 716), (721, 69, 719, 720), (725, 74, 723, 724), (730, 68, 729, 0), (733, 68, 732, 0), (739, 68, 737, 738), (743, 73, 741, 742), (747, 73, 745, 746), (752, 68, 750, 751), (756, 73, 754, 755), (760, 74, 758, 759), (765, 68, 763, 764), (769, 73, 767, 768), (773, 74, 771, 772), (777, 74, 775, 776), (781, 68, 779, 780), (786, 73, 784, 785), (790, 73, 788, 789), (794, 74, 792, 793), (798, 74, 796, 797), (802, 73, 801, 15), (806, 73, 805, 16), (810, 73, 808, 809), (814, 73, 812, 813), (819, 73, 818, 17), (824, 73, 822, 823), (829, 68, 827, 828), (833, 73, 831, 832), (837, 73, 836, 18), (845, 68, 843, 844), (850, 75, 848, 849), (855, 75, 854, 19), (860, 86, 859, 0), (868, 75, 867, 20), (873, 75, 872, 21), (879, 75, 877, 878), (883, 75, 882, 22), (889, 68, 887, 888), (892, 68, 891, 0), (895, 68, 894, 0), (899, 76, 897, 898), (904, 68, 902, 903), (908, 68, 907, 23), (918, 68, 916, 917), (923, 68, 921, 922), (926, 68, 925, 0), (930, 68, 928, 929), (934, 68, 932, 933), (938, 68, 936, 937), (942, 68, 941, 24), (945, 68, 944, 0), (949, 68, 947, 948), (953, 77, 951, 952), (957, 77, 955, 956), (961, 77, 959, 960), (966, 68, 964, 965), (970, 77, 968, 969), (975, 68, 973, 974), (979, 68, 977, 978), (983, 73, 981, 982), (988, 68, 986, 987), (992, 68, 990, 991), (996, 78, 994, 995), (1000, 78, 998, 999), (1004, 78, 1003, 25), (1008, 78, 1007, 26), (1012, 78, 1011, 27), (1016, 78, 1015, 28), (1020, 78, 1019, 29), (1024, 78, 1023, 30), (1028, 78, 1026, 1027), (1032, 78, 1031, 31), (1036, 78, 1035, 32), (1040, 78, 1039, 33), (1044, 68, 1042, 1043), (1048, 78, 1046, 1047), (1053, 68, 1051, 1052), (1057, 69, 1055, 1056), (1062, 68, 1061, 34), (1066, 68, 1064, 1065), (1071, 79, 1070, 0), (1240, 79, 1238, 1239), (1243, 79, 1242, 0), (1247, 79, 1246, 0), (1253, 79, 1252, 35), (1258, 79, 1256, 1257), (1262, 79, 1260, 1261), (1266, 79, 1264, 1265), (1270, 79, 1268, 1269), (1277, 79, 1275, 1276), (1281, 79, 1280, 36), (1285, 79, 1284, 37), (1289, 79, 1288, 38), (1293, 79, 1292, 0), (1296, 79, 1295, 0), (1300, 79, 1299, 39), (1305, 79, 1304, 40), (1309, 79, 1308, 41), (1313, 79, 1312, 42), (1317, 79, 1316, 43), (1321, 79, 1320, 44), (1331, 79, 1330, 45), (1340, 79, 1339, 46), (1344, 79, 1343, 47), (1349, 79, 1347, 1348), (1353, 79, 1351, 1352), (1356, 79, 1355, 0), (1367, 79, 1365, 1366), (1371, 79, 1370, 0), (1379, 79, 1377, 1378), (1383, 79, 1382, 48), (1387, 79, 1386, 49), (1392, 79, 1390, 1391), (1396, 79, 1395, 50), (1400, 79, 1398, 1399), (1404, 79, 1403, 51), (1408, 79, 1407, 52), (1412, 79, 1410, 1411), (1416, 79, 1415, 53), (1420, 79, 1419, 54), (1424, 79, 1423, 55), (1428, 79, 1427, 56), (1432, 79, 1431, 57), (1436, 79, 1434, 1435), (1440, 79, 1438, 1439), (1446, 79, 1445, 58), (1449, 79, 1448, 0), (1453, 79, 1452, 59), (1457, 79, 1455, 1456), (1462, 79, 1460, 1461), (1465, 79, 1464, 0), (1469, 79, 1468, 60), (1473, 79, 1471, 1472), (1480, 79, 1478, 1479), (1484, 79, 1482, 1483), (1488, 79, 1486, 1487), (1492, 79, 1490, 1491), (1496, 79, 1494, 1495), (1501, 79, 1499, 1500), (1505, 79, 1504, 61), (1509, 79, 1507, 1508), (1513, 79, 1511, 1512), (1517, 79, 1516, 62), (1521, 79, 1519, 1520), (1524, 79, 1523, 0), (1528, 79, 1526, 1527), (1532, 79, 1531, 63), (1536, 79, 1535, 64), (1540, 79, 1539, 65), (1544, 79, 1543, 66), (1548, 79, 1546, 1547), (1552, 79, 1550, 1551), (1556, 79, 1554, 1555)]
def vh_lsx (j : Nat) : List Nat := vh_lsL.getD j []
def vh_ck (j : Nat) : Bool := match vh_mt[j]?, vh_mp[j]? with
  | some row, some p => vh_mgd j row p && (vh_ops.getD j []).all (vh_good row (vh_lsx j))
  | _, _ => false
