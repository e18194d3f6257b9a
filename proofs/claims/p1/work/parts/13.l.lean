/-! The law's instructions: handlers and facts. -/
def rpL : List Nat := [18, 19, 20, 21, 23, 24, 27, 28, 29, 30, 32, 33, 208, 271, 272, 273, 274, 275, 276, 277, 280, 281, 282, 283, 284, 285, 286, 289, 292, 294, 295, 296, 297, 298, 299, 300, 301, 302, 303, 304, 305, 308, 309, 310, 311, 312, 313, 314, 315, 316, 317, 318, 319, 322, 325, 327, 328, 331, 332, 335, 338, 340, 341, 344, 345, 348, 351, 353, 354, 355, 356, 357, 358, 359, 362, 363, 364, 365, 366, 367, 368, 371, 374, 376, 377, 378, 379, 380, 381, 382, 383, 384, 385, 386, 387, 390, 391, 392, 393, 394, 395, 396, 397, 398, 399, 400, 401, 404, 407, 409, 410, 411, 412, 413, 414, 415, 416, 417, 418, 419, 420, 423, 424, 425, 426, 427, 428, 429, 430, 431, 432, 433, 434, 437, 440, 442, 443, 444, 445, 446, 447, 448, 449, 450, 451, 452, 453, 456, 457, 458, 459, 460, 461, 462, 463, 464, 465, 466, 467, 470, 473, 475, 476, 477, 478, 479, 480, 481, 482, 483, 484, 485, 486, 489, 490, 491, 492, 493, 494, 495, 496, 497, 498, 499, 500, 503, 506, 508, 509, 510, 511, 512, 513, 514, 515, 516, 517, 518, 519, 522, 523, 524, 525, 526, 527, 528, 529, 530, 531, 532, 533, 536, 539, 541, 542, 543, 544, 545, 546, 547, 548, 549, 550, 551, 552, 553, 554, 555, 556, 557, 560, 561, 562, 563, 564, 565, 566, 567, 568, 569, 570, 571, 572, 573, 574, 575, 576, 579, 582, 584, 585, 586, 587, 588, 589, 590, 591, 592, 593, 594, 595, 598, 599, 600, 601, 602, 603, 604, 605, 606, 607, 608, 609, 612, 615, 617, 618, 619, 620, 621, 622, 623, 624, 625, 626, 627, 628, 629, 630, 631, 632, 633, 636, 637, 638, 639, 640, 641, 642, 643, 644, 645, 646, 647, 648, 649, 650, 651, 652, 655, 658, 660, 661, 662, 663, 664, 665, 666, 667, 668, 669, 670, 671, 674, 675, 676, 677, 678, 679, 680, 681, 682, 683, 684, 685, 688, 691, 693, 694, 695, 696, 697, 698, 699, 700, 701, 702, 703, 704, 705, 706, 707, 708, 709, 712, 713, 714, 715, 716, 717, 718, 719, 720, 721, 722, 723, 724, 725, 726, 727, 728, 731, 734, 736, 737, 738, 739, 740, 741, 742, 743, 744, 745, 746, 747, 750, 751, 754, 755, 756, 757, 758, 759, 760, 763, 764, 765, 766, 767, 768, 769, 770, 771, 772, 773, 774, 777, 778, 781, 782, 783, 784, 785, 786, 787, 790, 793, 795, 796, 797, 798, 799, 800, 801, 802, 803, 804, 805, 806, 809, 810, 811, 812, 813, 814, 815, 816, 817, 818, 819, 820, 823, 826, 828, 829, 830, 831, 832, 833, 834, 837, 838, 839, 840, 841, 842, 843, 846, 849, 851, 852, 853, 854, 855, 856, 857, 858, 859, 860, 861, 862, 865, 866, 867, 868, 869, 870, 871, 872, 873, 874, 875, 876, 879, 882, 884, 885, 886, 887, 888, 889, 890, 891, 892, 893, 894, 895, 898, 899, 900, 901, 902, 903, 904, 905, 906, 907, 908, 909, 912, 915, 917, 918, 919, 920, 921, 922, 923, 924, 925, 926, 927, 928, 931, 932, 935, 936, 937, 938, 939, 940, 941, 944, 945, 946, 947, 948, 949, 950, 951, 952, 953, 954, 955, 958, 959, 962, 963, 964, 965, 966, 967, 968, 971, 974, 976, 977, 978, 979, 980, 981, 982, 983, 984, 985, 986, 987, 990, 991, 992, 993, 994, 995, 996, 997, 998, 999, 1000, 1001, 1004, 1007, 1009, 1010, 1011, 1012, 1013, 1014, 1015, 1016, 1017, 1018, 1019, 1020, 1023, 1024, 1025, 1026, 1027, 1028, 1029, 1030, 1031, 1032, 1033, 1034, 1037, 1040, 1042, 1043, 1044, 1045, 1046, 1047, 1048, 1049, 1050, 1051, 1052, 1053, 1056, 1057, 1058, 1059, 1060, 1061, 1062, 1063, 1064, 1065, 1066, 1067, 1070, 1073, 1075, 1076, 1077, 1078, 1079, 1080, 1081, 1084, 1085, 1086, 1087, 1088, 1089, 1090, 1093, 1096, 1098, 1099, 1100, 1101, 1102, 1103, 1104, 1105, 1106, 1107, 1108, 1109, 1112, 1113, 1114, 1115, 1116, 1117, 1118, 1119, 1120, 1121, 1122, 1123, 1126, 1129, 1131, 1132, 1133, 1134, 1135, 1136, 1137, 1140, 1141, 1142, 1143, 1144, 1145, 1146, 1149, 1152, 1154, 1155, 1158, 1159, 1162, 1165, 1167, 1168, 1169, 1170, 1171, 1172, 1173, 1176, 1177, 1178, 1179, 1180, 1181, 1182, 1185, 1188, 1190, 1191, 1194, 1195, 1198, 1201, 1203, 1204, 1205, 1206, 1207, 1208, 1209, 1212, 1213, 1214, 1215, 1216, 1217, 1218, 1221, 1224, 1226, 1227, 1228, 1229, 1230, 1231, 1232, 1233, 1234, 1235, 1236, 1237, 1240, 1241, 1242, 1243, 1244, 1245, 1246, 1247, 1248, 1249, 1250, 1251, 1254, 1257, 1259, 1260, 1261, 1262, 1263, 1264, 1265, 1266, 1267, 1268, 1269, 1270, 1273, 1274, 1275, 1276, 1277, 1278, 1279, 1280, 1281, 1282, 1283, 1284, 1287, 1290, 1292, 1293, 1294, 1295, 1296, 1297, 1298, 1299, 1300, 1301, 1302, 1303, 1306, 1307, 1308, 1309, 1310, 1311, 1312, 1313, 1314, 1315, 1316, 1317, 1320, 1323, 1325, 1326, 1327, 1328, 1329, 1330, 1331, 1332, 1333, 1334, 1335, 1336, 1339, 1340, 1341, 1342, 1343, 1344, 1345, 1346, 1347, 1348, 1349, 1350, 1353, 1356, 1358, 1359, 1360, 1361, 1362, 1363, 1364, 1365, 1366, 1367, 1368, 1369, 1372, 1373, 1374, 1375, 1376, 1377, 1378, 1379, 1380, 1381, 1382, 1383, 1386, 1389, 1391, 1392, 1393, 1394, 1395, 1396, 1397, 1400, 1401, 1402, 1403, 1404, 1405, 1406, 1409, 1412, 1414, 1415, 1416, 1417, 1418, 1419, 1420, 1421, 1422, 1423, 1424, 1425, 1428, 1429, 1430, 1431, 1432, 1433, 1434, 1435, 1436, 1437, 1438, 1439, 1442, 1445, 1447, 1448, 1451, 1452, 1455, 1458, 1460, 1463, 1466, 1467]
noncomputable def rcL (nn : Nat) (vals : List rz_V) (w : rz_V) (o : Nat) : List rz_B := [rz_iload 3, rz_aload 0, rz_slen nn, rz_cst 6, rz_isub, rz_icmpgt 915, rz_aload 0, rz_iload 3, rz_sld vals, rz_cst 63, rz_and6 w o, rz_tsw 0 [12, 13, 29, 55, 61, 67, 83, 109, 135, 161, 187, 213, 249, 275, 311, 337, 373, 417, 443, 459, 485, 511, 555, 581, 607, 633, 649, 675, 691, 697, 713, 719, 735, 761, 787, 813, 839, 865, 881, 907] 913, rz_no, rz_aload 1, rz_aload 0, rz_iload 3, rz_cst 1, rz_iadd, rz_sld vals, rz_callV 1 (Nat.add (Nat.mul 256 13) 1) rgX11_end, rz_aload 2, rz_aload 0, rz_iload 3, rz_cst 1, rz_iadd, rz_sld vals, rz_callV 1 (Nat.add (Nat.mul 256 14) 1) rgX12_end, rz_icmpeq 913, rz_no, rz_aload 1, rz_aload 0, rz_iload 3, rz_cst 1, rz_iadd, rz_sld vals, rz_aload 0, rz_iload 3, rz_cst 2, rz_iadd, rz_sld vals, rz_callV 2 (Nat.add (Nat.mul 256 13) 1) rgX11_change, rz_aload 2, rz_aload 0, rz_iload 3, rz_cst 1, rz_iadd, rz_sld vals, rz_aload 0, rz_iload 3, rz_cst 2, rz_iadd, rz_sld vals, rz_callV 2 (Nat.add (Nat.mul 256 14) 1) rgX12_change, rz_icmpeq 913, rz_no, rz_aload 1, rz_callV 0 (Nat.add (Nat.mul 256 13) 1) rgX11_clear, rz_aload 2, rz_callV 0 (Nat.add (Nat.mul 256 14) 1) rgX12_clear, rz_icmpeq 913, rz_no, rz_aload 1, rz_callV 0 (Nat.add (Nat.mul 256 13) 1) roX11_load, rz_aload 2, rz_callV 0 (Nat.add (Nat.mul 256 14) 1) roX12_load, rz_icmpeq 913, rz_no, rz_aload 1, rz_aload 0, rz_iload 3, rz_cst 1, rz_iadd, rz_sld vals, rz_callV 1 (Nat.add (Nat.mul 256 13) 1) rgX11_count, rz_aload 2, rz_aload 0, rz_iload 3, rz_cst 1, rz_iadd, rz_sld vals, rz_callV 1 (Nat.add (Nat.mul 256 14) 1) rgX12_count, rz_icmpeq 913, rz_no, rz_aload 1, rz_aload 0, rz_iload 3, rz_cst 1, rz_iadd, rz_sld vals, rz_aload 0, rz_iload 3, rz_cst 2, rz_iadd, rz_sld vals, rz_callV 2 (Nat.add (Nat.mul 256 13) 1) rgX11_classOf, rz_aload 2, rz_aload 0, rz_iload 3, rz_cst 1, rz_iadd, rz_sld vals, rz_aload 0, rz_iload 3, rz_cst 2, rz_iadd, rz_sld vals, rz_callV 2 (Nat.add (Nat.mul 256 14) 1) rgX12_classOf, rz_icmpeq 913, rz_no, rz_aload 1, rz_aload 0, rz_iload 3, rz_cst 1, rz_iadd, rz_sld vals, rz_aload 0, rz_iload 3, rz_cst 2, rz_iadd, rz_sld vals, rz_callV 2 (Nat.add (Nat.mul 256 13) 1) rgX11_method, rz_aload 2, rz_aload 0, rz_iload 3, rz_cst 1, rz_iadd, rz_sld vals, rz_aload 0, rz_iload 3, rz_cst 2, rz_iadd, rz_sld vals, rz_callV 2 (Nat.add (Nat.mul 256 14) 1) rgX12_method, rz_icmpeq 913, rz_no, rz_aload 1, rz_aload 0, rz_iload 3, rz_cst 1, rz_iadd, rz_sld vals, rz_aload 0, rz_iload 3, rz_cst 2, rz_iadd, rz_sld vals, rz_callV 2 (Nat.add (Nat.mul 256 13) 1) rgX11_instruction, rz_aload 2, rz_aload 0, rz_iload 3, rz_cst 1, rz_iadd, rz_sld vals, rz_aload 0, rz_iload 3, rz_cst 2, rz_iadd, rz_sld vals, rz_callV 2 (Nat.add (Nat.mul 256 14) 1) rgX12_instruction, rz_icmpeq 913, rz_no, rz_aload 1, rz_aload 0, rz_iload 3, rz_cst 1, rz_iadd, rz_sld vals, rz_aload 0, rz_iload 3, rz_cst 2, rz_iadd, rz_sld vals, rz_callV 2 (Nat.add (Nat.mul 256 13) 1) rgX11_below, rz_aload 2, rz_aload 0, rz_iload 3, rz_cst 1, rz_iadd, rz_sld vals, rz_aload 0, rz_iload 3, rz_cst 2, rz_iadd, rz_sld vals, rz_callV 2 (Nat.add (Nat.mul 256 14) 1) rgX12_below, rz_icmpeq 913, rz_no, rz_aload 1, rz_aload 0, rz_iload 3, rz_cst 1, rz_iadd, rz_sld vals, rz_aload 0, rz_iload 3, rz_cst 2, rz_iadd, rz_sld vals, rz_callV 2 (Nat.add (Nat.mul 256 13) 1) rgX11_selected, rz_aload 2, rz_aload 0, rz_iload 3, rz_cst 1, rz_iadd, rz_sld vals, rz_aload 0, rz_iload 3, rz_cst 2, rz_iadd, rz_sld vals, rz_callV 2 (Nat.add (Nat.mul 256 14) 1) rgX12_selected, rz_icmpeq 913, rz_no, rz_aload 1, rz_aload 0, rz_iload 3, rz_cst 1, rz_iadd, rz_sld vals, rz_aload 0, rz_iload 3, rz_cst 2, rz_iadd, rz_sld vals, rz_aload 0, rz_iload 3, rz_cst 3, rz_iadd, rz_sld vals, rz_callV 3 (Nat.add (Nat.mul 256 13) 1) rgX11_kind, rz_aload 2, rz_aload 0, rz_iload 3, rz_cst 1, rz_iadd, rz_sld vals, rz_aload 0, rz_iload 3, rz_cst 2, rz_iadd, rz_sld vals, rz_aload 0, rz_iload 3, rz_cst 3, rz_iadd, rz_sld vals, rz_callV 3 (Nat.add (Nat.mul 256 14) 1) rgX12_kind, rz_icmpeq 913, rz_no, rz_aload 1, rz_aload 0, rz_iload 3, rz_cst 1, rz_iadd, rz_sld vals, rz_aload 0, rz_iload 3, rz_cst 2, rz_iadd, rz_sld vals, rz_callV 2 (Nat.add (Nat.mul 256 13) 1) rgX11_analyse, rz_aload 2, rz_aload 0, rz_iload 3, rz_cst 1, rz_iadd, rz_sld vals, rz_aload 0, rz_iload 3, rz_cst 2, rz_iadd, rz_sld vals, rz_callV 2 (Nat.add (Nat.mul 256 14) 1) rgX12_analyse, rz_icmpeq 913, rz_no, rz_aload 1, rz_aload 0, rz_iload 3, rz_cst 1, rz_iadd, rz_sld vals, rz_aload 0, rz_iload 3, rz_cst 2, rz_iadd, rz_sld vals, rz_aload 0, rz_iload 3, rz_cst 3, rz_iadd, rz_sld vals, rz_callV 3 (Nat.add (Nat.mul 256 13) 1) rgX11_holds, rz_aload 2, rz_aload 0, rz_iload 3, rz_cst 1, rz_iadd, rz_sld vals, rz_aload 0, rz_iload 3, rz_cst 2, rz_iadd, rz_sld vals, rz_aload 0, rz_iload 3, rz_cst 3, rz_iadd, rz_sld vals, rz_callV 3 (Nat.add (Nat.mul 256 14) 1) rgX12_holds, rz_icmpeq 913, rz_no, rz_aload 1, rz_aload 0, rz_iload 3, rz_cst 1, rz_iadd, rz_sld vals, rz_aload 0, rz_iload 3, rz_cst 2, rz_iadd, rz_sld vals, rz_callV 2 (Nat.add (Nat.mul 256 13) 1) rgX11_object, rz_aload 2, rz_aload 0, rz_iload 3, rz_cst 1, rz_iadd, rz_sld vals, rz_aload 0, rz_iload 3, rz_cst 2, rz_iadd, rz_sld vals, rz_callV 2 (Nat.add (Nat.mul 256 14) 1) rgX12_object, rz_icmpeq 913, rz_no, rz_aload 1, rz_aload 0, rz_iload 3, rz_cst 1, rz_iadd, rz_sld vals, rz_aload 0, rz_iload 3, rz_cst 2, rz_iadd, rz_sld vals, rz_aload 0, rz_iload 3, rz_cst 3, rz_iadd, rz_sld vals, rz_callV 3 (Nat.add (Nat.mul 256 13) 1) rgX11_field, rz_aload 2, rz_aload 0, rz_iload 3, rz_cst 1, rz_iadd, rz_sld vals, rz_aload 0, rz_iload 3, rz_cst 2, rz_iadd, rz_sld vals, rz_aload 0, rz_iload 3, rz_cst 3, rz_iadd, rz_sld vals, rz_callV 3 (Nat.add (Nat.mul 256 14) 1) rgX12_field, rz_icmpeq 913, rz_no, rz_aload 1, rz_aload 0, rz_iload 3, rz_cst 1, rz_iadd, rz_sld vals, rz_aload 0, rz_iload 3, rz_cst 2, rz_iadd, rz_sld vals, rz_if1B 387, rz_cst 1, rz_goto 388, rz_cst 0, rz_aload 0, rz_iload 3, rz_cst 3, rz_iadd, rz_sld vals, rz_callV 3 (Nat.add (Nat.mul 256 13) 1) rgX11_calls, rz_aload 2, rz_aload 0, rz_iload 3, rz_cst 1, rz_iadd, rz_sld vals, rz_aload 0, rz_iload 3, rz_cst 2, rz_iadd, rz_sld vals, rz_if1B 408, rz_cst 1, rz_goto 409, rz_cst 0, rz_aload 0, rz_iload 3, rz_cst 3, rz_iadd, rz_sld vals, rz_callV 3 (Nat.add (Nat.mul 256 14) 1) rgX12_calls, rz_icmpeq 913, rz_no, rz_aload 1, rz_aload 0, rz_iload 3, rz_cst 1, rz_iadd, rz_sld vals, rz_aload 0, rz_iload 3, rz_cst 2, rz_iadd, rz_sld vals, rz_callV 2 (Nat.add (Nat.mul 256 13) 1) rgX11_reached, rz_aload 2, rz_aload 0, rz_iload 3, rz_cst 1, rz_iadd, rz_sld vals, rz_aload 0, rz_iload 3, rz_cst 2, rz_iadd, rz_sld vals, rz_callV 2 (Nat.add (Nat.mul 256 14) 1) rgX12_reached, rz_icmpeq 913, rz_no, rz_aload 1, rz_aload 0, rz_iload 3, rz_cst 1, rz_iadd, rz_sld vals, rz_callV 1 (Nat.add (Nat.mul 256 13) 1) rgX11_begins, rz_aload 2, rz_aload 0, rz_iload 3, rz_cst 1, rz_iadd, rz_sld vals, rz_callV 1 (Nat.add (Nat.mul 256 14) 1) rgX12_begins, rz_icmpeq 913, rz_no, rz_aload 1, rz_aload 0, rz_iload 3, rz_cst 1, rz_iadd, rz_sld vals, rz_aload 0, rz_iload 3, rz_cst 2, rz_iadd, rz_sld vals, rz_callV 2 (Nat.add (Nat.mul 256 13) 1) rgX11_thread, rz_aload 2, rz_aload 0, rz_iload 3, rz_cst 1, rz_iadd, rz_sld vals, rz_aload 0, rz_iload 3, rz_cst 2, rz_iadd, rz_sld vals, rz_callV 2 (Nat.add (Nat.mul 256 14) 1) rgX12_thread, rz_icmpeq 913, rz_no, rz_aload 1, rz_aload 0, rz_iload 3, rz_cst 1, rz_iadd, rz_sld vals, rz_aload 0, rz_iload 3, rz_cst 2, rz_iadd, rz_sld vals, rz_callV 2 (Nat.add (Nat.mul 256 13) 1) rgX11_parallel, rz_aload 2, rz_aload 0, rz_iload 3, rz_cst 1, rz_iadd, rz_sld vals, rz_aload 0, rz_iload 3, rz_cst 2, rz_iadd, rz_sld vals, rz_callV 2 (Nat.add (Nat.mul 256 14) 1) rgX12_parallel, rz_icmpeq 913, rz_no, rz_aload 1, rz_aload 0, rz_iload 3, rz_cst 1, rz_iadd, rz_sld vals, rz_aload 0, rz_iload 3, rz_cst 2, rz_iadd, rz_sld vals, rz_if1B 525, rz_cst 1, rz_goto 526, rz_cst 0, rz_aload 0, rz_iload 3, rz_cst 3, rz_iadd, rz_sld vals, rz_callV 3 (Nat.add (Nat.mul 256 13) 1) rgX11_held, rz_aload 2, rz_aload 0, rz_iload 3, rz_cst 1, rz_iadd, rz_sld vals, rz_aload 0, rz_iload 3, rz_cst 2, rz_iadd, rz_sld vals, rz_if1B 546, rz_cst 1, rz_goto 547, rz_cst 0, rz_aload 0, rz_iload 3, rz_cst 3, rz_iadd, rz_sld vals, rz_callV 3 (Nat.add (Nat.mul 256 14) 1) rgX12_held, rz_icmpeq 913, rz_no, rz_aload 1, rz_aload 0, rz_iload 3, rz_cst 1, rz_iadd, rz_sld vals, rz_aload 0, rz_iload 3, rz_cst 2, rz_iadd, rz_sld vals, rz_callV 2 (Nat.add (Nat.mul 256 13) 1) rgX11_race, rz_aload 2, rz_aload 0, rz_iload 3, rz_cst 1, rz_iadd, rz_sld vals, rz_aload 0, rz_iload 3, rz_cst 2, rz_iadd, rz_sld vals, rz_callV 2 (Nat.add (Nat.mul 256 14) 1) rgX12_race, rz_icmpeq 913, rz_no, rz_aload 1, rz_aload 0, rz_iload 3, rz_cst 1, rz_iadd, rz_sld vals, rz_aload 0, rz_iload 3, rz_cst 2, rz_iadd, rz_sld vals, rz_callV 2 (Nat.add (Nat.mul 256 13) 1) rgX11_knot, rz_aload 2, rz_aload 0, rz_iload 3, rz_cst 1, rz_iadd, rz_sld vals, rz_aload 0, rz_iload 3, rz_cst 2, rz_iadd, rz_sld vals, rz_callV 2 (Nat.add (Nat.mul 256 14) 1) rgX12_knot, rz_icmpeq 913, rz_no, rz_aload 1, rz_aload 0, rz_iload 3, rz_cst 1, rz_iadd, rz_sld vals, rz_aload 0, rz_iload 3, rz_cst 2, rz_iadd, rz_sld vals, rz_callV 2 (Nat.add (Nat.mul 256 13) 1) rgX11_waits, rz_aload 2, rz_aload 0, rz_iload 3, rz_cst 1, rz_iadd, rz_sld vals, rz_aload 0, rz_iload 3, rz_cst 2, rz_iadd, rz_sld vals, rz_callV 2 (Nat.add (Nat.mul 256 14) 1) rgX12_waits, rz_icmpeq 913, rz_no, rz_aload 1, rz_aload 0, rz_iload 3, rz_cst 1, rz_iadd, rz_sld vals, rz_callV 1 (Nat.add (Nat.mul 256 13) 1) rgX11_unresolved, rz_aload 2, rz_aload 0, rz_iload 3, rz_cst 1, rz_iadd, rz_sld vals, rz_callV 1 (Nat.add (Nat.mul 256 14) 1) rgX12_unresolved, rz_icmpeq 913, rz_no, rz_aload 1, rz_aload 0, rz_iload 3, rz_cst 1, rz_iadd, rz_sld vals, rz_aload 0, rz_iload 3, rz_cst 2, rz_iadd, rz_sld vals, rz_callV 2 (Nat.add (Nat.mul 256 13) 1) rgX11_way, rz_aload 2, rz_aload 0, rz_iload 3, rz_cst 1, rz_iadd, rz_sld vals, rz_aload 0, rz_iload 3, rz_cst 2, rz_iadd, rz_sld vals, rz_callV 2 (Nat.add (Nat.mul 256 14) 1) rgX12_way, rz_icmpeq 913, rz_no, rz_aload 1, rz_aload 0, rz_iload 3, rz_cst 1, rz_iadd, rz_sld vals, rz_callV 1 (Nat.add (Nat.mul 256 13) 1) rgX11_ask, rz_aload 2, rz_aload 0, rz_iload 3, rz_cst 1, rz_iadd, rz_sld vals, rz_callV 1 (Nat.add (Nat.mul 256 14) 1) rgX12_ask, rz_icmpeq 913, rz_no, rz_aload 1, rz_callV 0 (Nat.add (Nat.mul 256 13) 1) rgX11_answer, rz_aload 2, rz_callV 0 (Nat.add (Nat.mul 256 14) 1) rgX12_answer, rz_icmpeq 913, rz_no, rz_aload 1, rz_aload 0, rz_iload 3, rz_cst 1, rz_iadd, rz_sld vals, rz_callV 1 (Nat.add (Nat.mul 256 13) 1) rgX11_answered, rz_aload 2, rz_aload 0, rz_iload 3, rz_cst 1, rz_iadd, rz_sld vals, rz_callV 1 (Nat.add (Nat.mul 256 14) 1) rgX12_answered, rz_icmpeq 913, rz_no, rz_aload 1, rz_callV 0 (Nat.add (Nat.mul 256 13) 1) rgX11_begin, rz_aload 2, rz_callV 0 (Nat.add (Nat.mul 256 14) 1) rgX12_begin, rz_icmpeq 913, rz_no, rz_aload 1, rz_aload 0, rz_iload 3, rz_cst 1, rz_iadd, rz_sld vals, rz_callV 1 (Nat.add (Nat.mul 256 13) 1) rgX11_step, rz_aload 2, rz_aload 0, rz_iload 3, rz_cst 1, rz_iadd, rz_sld vals, rz_callV 1 (Nat.add (Nat.mul 256 14) 1) rgX12_step, rz_icmpeq 913, rz_no, rz_aload 1, rz_aload 0, rz_iload 3, rz_cst 1, rz_iadd, rz_sld vals, rz_aload 0, rz_iload 3, rz_cst 2, rz_iadd, rz_sld vals, rz_callV 2 (Nat.add (Nat.mul 256 13) 1) rgX11_run, rz_aload 2, rz_aload 0, rz_iload 3, rz_cst 1, rz_iadd, rz_sld vals, rz_aload 0, rz_iload 3, rz_cst 2, rz_iadd, rz_sld vals, rz_callV 2 (Nat.add (Nat.mul 256 14) 1) rgX12_run, rz_icmpeq 913, rz_no, rz_aload 1, rz_aload 0, rz_iload 3, rz_cst 1, rz_iadd, rz_sld vals, rz_aload 0, rz_iload 3, rz_cst 2, rz_iadd, rz_sld vals, rz_callV 2 (Nat.add (Nat.mul 256 13) 1) rgX11_state, rz_aload 2, rz_aload 0, rz_iload 3, rz_cst 1, rz_iadd, rz_sld vals, rz_aload 0, rz_iload 3, rz_cst 2, rz_iadd, rz_sld vals, rz_callV 2 (Nat.add (Nat.mul 256 14) 1) rgX12_state, rz_icmpeq 913, rz_no, rz_aload 1, rz_aload 0, rz_iload 3, rz_cst 1, rz_iadd, rz_sld vals, rz_aload 0, rz_iload 3, rz_cst 2, rz_iadd, rz_sld vals, rz_callV 2 (Nat.add (Nat.mul 256 13) 1) rgX11_local, rz_aload 2, rz_aload 0, rz_iload 3, rz_cst 1, rz_iadd, rz_sld vals, rz_aload 0, rz_iload 3, rz_cst 2, rz_iadd, rz_sld vals, rz_callV 2 (Nat.add (Nat.mul 256 14) 1) rgX12_local, rz_icmpeq 913, rz_no, rz_aload 1, rz_aload 0, rz_iload 3, rz_cst 1, rz_iadd, rz_sld vals, rz_aload 0, rz_iload 3, rz_cst 2, rz_iadd, rz_sld vals, rz_callV 2 (Nat.add (Nat.mul 256 13) 1) rgX11_thing, rz_aload 2, rz_aload 0, rz_iload 3, rz_cst 1, rz_iadd, rz_sld vals, rz_aload 0, rz_iload 3, rz_cst 2, rz_iadd, rz_sld vals, rz_callV 2 (Nat.add (Nat.mul 256 14) 1) rgX12_thing, rz_icmpeq 913, rz_no, rz_aload 1, rz_aload 0, rz_iload 3, rz_cst 1, rz_iadd, rz_sld vals, rz_aload 0, rz_iload 3, rz_cst 2, rz_iadd, rz_sld vals, rz_callV 2 (Nat.add (Nat.mul 256 13) 1) rgX11_value, rz_aload 2, rz_aload 0, rz_iload 3, rz_cst 1, rz_iadd, rz_sld vals, rz_aload 0, rz_iload 3, rz_cst 2, rz_iadd, rz_sld vals, rz_callV 2 (Nat.add (Nat.mul 256 14) 1) rgX12_value, rz_icmpeq 913, rz_no, rz_aload 1, rz_aload 0, rz_iload 3, rz_cst 1, rz_iadd, rz_sld vals, rz_callV 1 (Nat.add (Nat.mul 256 13) 1) rgX11_said, rz_aload 2, rz_aload 0, rz_iload 3, rz_cst 1, rz_iadd, rz_sld vals, rz_callV 1 (Nat.add (Nat.mul 256 14) 1) rgX12_said, rz_icmpeq 913, rz_no, rz_aload 1, rz_aload 0, rz_iload 3, rz_cst 1, rz_iadd, rz_sld vals, rz_aload 0, rz_iload 3, rz_cst 2, rz_iadd, rz_sld vals, rz_callV 2 (Nat.add (Nat.mul 256 13) 1) rgX11_clash, rz_aload 2, rz_aload 0, rz_iload 3, rz_cst 1, rz_iadd, rz_sld vals, rz_aload 0, rz_iload 3, rz_cst 2, rz_iadd, rz_sld vals, rz_callV 2 (Nat.add (Nat.mul 256 14) 1) rgX12_clash, rz_icmpeq 913, rz_no, rz_aload 1, rz_callV 0 (Nat.add (Nat.mul 256 13) 1) rgX11_foreseen, rz_aload 2, rz_callV 0 (Nat.add (Nat.mul 256 14) 1) rgX12_foreseen, rz_icmpeq 913, rz_no, rz_iinc 3 6, rz_goto 0, rz_cst 1, rz_lret1]
set_option maxRecDepth 100000 in
set_option maxHeartbeats 4000000 in
theorem rL_ok {G : rz_G} {p : Program} {l : Launch} {e : Env} {s : State} {m : MethodId} {b : Nat} {below : List Frame} {meth : Method} {c : Code} {nn o : Nat} {vals : List rz_V} {w : rz_V} {x0 : Int32} {xs : Nat → Int32} {Z : rz_Z} (hG : rz_Gd G) (hC : rz_Cx G rz_TB x code 4 ret room_1 p room_1 s m #[Value.ref b] meth c) (htsL : ∀ w ∈ rz_LW ++ rz_TB, w.before #[Value.ref b] s = true) (hX : va_X (rz_ad G 3000000) nn xs s s.heap) (hbl : rz_ad G 3000000 < s.heap.size) (hbA : ¬ rz_b G ≤ rz_ad G 3000000) (hn : vals.length = nn) (hn2 : nn ≤ 6) (hv : ∀ (i : Nat) (v : rz_V), vals[i]? = some v → rz_v G v = .int (xs i)) (hw : rz_v G w = .int x0) (ho : x0 &&& nI 63 = nI o) (hbs : rz_b G = s.heap.size) : rz_All (rz_Fc G p l e room_1 s m #[Value.ref b] below meth c (lw_Z below #[Value.ref b] s) 4 cL Z rpL) 0 (rcL nn vals w o) := by
  obtain ⟨D, tc, ad, bb, xx, rfl⟩ := id hG
  obtain ⟨hx, hb, hml, hr, hlk, hown, hts, hKn, hRm⟩ := id hC
  obtain ⟨hK, hA, hSt⟩ := id hKn
  refine rz_All_c (i := 0) (fun k J hk hJ => rz_iload_n_ok (pc := 18) hx hb dL_law_18 rfl hk) ?_
  refine rz_All_c (i := 1) (fun k J hk hJ => rz_aload_n_ok (pc := 19) hx hb dL_law_19 rfl hk) ?_
  refine rz_All_c (i := 2) (fun k J hk hJ => rz_slen_ok (pc := 20) hx hb hX hbl hbA dL_law_20 hk) ?_
  refine rz_All_c (i := 3) (fun k J hk hJ => rz_bipush_ok (pc := 21) hx hb dL_law_21 (by decide) hk) ?_
  refine rz_All_c (i := 4) (fun k J hk hJ => rz_isub_ok (pc := 23) hx hb dL_law_23 hk) ?_
  refine rz_All_c (i := 5) (fun k J hk hJ => rz_icmpgt_ok (pc := 24) hx hb dL_law_24 rfl hk (hJ 915)) ?_
  refine rz_All_c (i := 6) (fun k J hk hJ => rz_aload_n_ok (pc := 27) hx hb dL_law_27 rfl hk) ?_
  refine rz_All_c (i := 7) (fun k J hk hJ => rz_iload_n_ok (pc := 28) hx hb dL_law_28 rfl hk) ?_
  refine rz_All_c (i := 8) (fun k J hk hJ => rz_sld_ok (pc := 29) hx hb hX hbl hbA hn hn2 hv dL_law_29 hk) ?_
  refine rz_All_c (i := 9) (fun k J hk hJ => rz_bipush_ok (pc := 30) hx hb dL_law_30 (by decide) hk) ?_
  refine rz_All_c (i := 10) (fun k J hk hJ => rz_and6_ok (pc := 32) hx hb hw ho dL_law_32 hk) ?_
  refine rz_All_c (i := 11) (fun k J hk hJ => rz_tsw_ok (pc := 33) (pcs := rpL) (js := [12, 13, 29, 55, 61, 67, 83, 109, 135, 161, 187, 213, 249, 275, 311, 337, 373, 417, 443, 459, 485, 511, 555, 581, 607, 633, 649, 675, 691, 697, 713, 719, 735, 761, 787, 813, 839, 865, 881, 907]) (d := 913) (lo := 0) hx hb dL_law_33 (by decide +kernel) hJ) ?_
  refine rz_All_c (i := 12) (fun k J hk hJ => rz_no_ok) ?_
  refine rz_All_c (i := 13) (fun k J hk hJ => rz_aload_n_ok (pc := 271) hx hb dL_law_271 rfl hk) ?_
  refine rz_All_c (i := 14) (fun k J hk hJ => rz_aload_n_ok (pc := 272) hx hb dL_law_272 rfl hk) ?_
  refine rz_All_c (i := 15) (fun k J hk hJ => rz_iload_n_ok (pc := 273) hx hb dL_law_273 rfl hk) ?_
  refine rz_All_c (i := 16) (fun k J hk hJ => rz_iconst_ok (pc := 274) hx hb dL_law_274 rfl hk) ?_
  refine rz_All_c (i := 17) (fun k J hk hJ => rz_iadd_ok (pc := 275) hx hb dL_law_275 hk) ?_
  refine rz_All_c (i := 18) (fun k J hk hJ => rz_sld_ok (pc := 276) hx hb hX hbl hbA hn hn2 hv dL_law_276 hk) ?_
  refine rz_All_c (i := 19) (fun k J hk hJ => rz_callV_ok (pc := 277) (own := "ThreadJudgeLaw") (C := RX11) (T0 := TX11) (N0 := 16) (ci := 13) hC rfl (rmX11_end l hG) (lw_cw 1 htsL (lw_mL (i := 0) rfl) (lw_mL (i := 1) rfl) (lw_mL (i := 2) rfl) (lw_mL (i := 3) rfl) (lw_mL (i := 4) rfl) ⟨rfl, by decide, by decide, by decide +kernel⟩ ⟨by decide, by decide⟩) rfl dL_law_277 hk ⟨Nat.le_refl _, Nat.le_refl _⟩ lw_hf) ?_
  refine rz_All_c (i := 20) (fun k J hk hJ => rz_aload_n_ok (pc := 280) hx hb dL_law_280 rfl hk) ?_
  refine rz_All_c (i := 21) (fun k J hk hJ => rz_aload_n_ok (pc := 281) hx hb dL_law_281 rfl hk) ?_
  refine rz_All_c (i := 22) (fun k J hk hJ => rz_iload_n_ok (pc := 282) hx hb dL_law_282 rfl hk) ?_
  refine rz_All_c (i := 23) (fun k J hk hJ => rz_iconst_ok (pc := 283) hx hb dL_law_283 rfl hk) ?_
  refine rz_All_c (i := 24) (fun k J hk hJ => rz_iadd_ok (pc := 284) hx hb dL_law_284 hk) ?_
  refine rz_All_c (i := 25) (fun k J hk hJ => rz_sld_ok (pc := 285) hx hb hX hbl hbA hn hn2 hv dL_law_285 hk) ?_
  refine rz_All_c (i := 26) (fun k J hk hJ => rz_callV_ok (pc := 286) (own := "ThreadJudgeLaw") (C := RX12) (T0 := TX12) (N0 := 257) (ci := 14) hC rfl (rmX12_end l hG) (lw_cw 1 htsL (lw_mL (i := 5) rfl) (lw_mL (i := 6) rfl) (lw_mL (i := 7) rfl) (lw_mL (i := 8) rfl) (lw_mL (i := 9) rfl) ⟨rfl, by decide, by decide, by decide +kernel⟩ ⟨by decide, by decide⟩) rfl dL_law_286 hk ⟨Nat.le_refl _, Nat.le_refl _⟩ lw_hf) ?_
  refine rz_All_c (i := 27) (fun k J hk hJ => rz_icmpeq_ok (pc := 289) hx hb dL_law_289 rfl hk (hJ 913)) ?_
  refine rz_All_c (i := 28) (fun k J hk hJ => rz_no_ok) ?_
  refine rz_All_c (i := 29) (fun k J hk hJ => rz_aload_n_ok (pc := 294) hx hb dL_law_294 rfl hk) ?_
  refine rz_All_c (i := 30) (fun k J hk hJ => rz_aload_n_ok (pc := 295) hx hb dL_law_295 rfl hk) ?_
  refine rz_All_c (i := 31) (fun k J hk hJ => rz_iload_n_ok (pc := 296) hx hb dL_law_296 rfl hk) ?_
  refine rz_All_c (i := 32) (fun k J hk hJ => rz_iconst_ok (pc := 297) hx hb dL_law_297 rfl hk) ?_
  refine rz_All_c (i := 33) (fun k J hk hJ => rz_iadd_ok (pc := 298) hx hb dL_law_298 hk) ?_
  refine rz_All_c (i := 34) (fun k J hk hJ => rz_sld_ok (pc := 299) hx hb hX hbl hbA hn hn2 hv dL_law_299 hk) ?_
  refine rz_All_c (i := 35) (fun k J hk hJ => rz_aload_n_ok (pc := 300) hx hb dL_law_300 rfl hk) ?_
  refine rz_All_c (i := 36) (fun k J hk hJ => rz_iload_n_ok (pc := 301) hx hb dL_law_301 rfl hk) ?_
  refine rz_All_c (i := 37) (fun k J hk hJ => rz_iconst_ok (pc := 302) hx hb dL_law_302 rfl hk) ?_
  refine rz_All_c (i := 38) (fun k J hk hJ => rz_iadd_ok (pc := 303) hx hb dL_law_303 hk) ?_
  refine rz_All_c (i := 39) (fun k J hk hJ => rz_sld_ok (pc := 304) hx hb hX hbl hbA hn hn2 hv dL_law_304 hk) ?_
  refine rz_All_c (i := 40) (fun k J hk hJ => rz_callV_ok (pc := 305) (own := "ThreadJudgeLaw") (C := RX11) (T0 := TX11) (N0 := 16) (ci := 13) hC rfl (rmX11_change l hG) (lw_cw 2 htsL (lw_mL (i := 10) rfl) (lw_mL (i := 11) rfl) (lw_mL (i := 12) rfl) (lw_mL (i := 3) rfl) (lw_mL (i := 13) rfl) ⟨rfl, by decide, by decide, by decide +kernel⟩ ⟨by decide, by decide⟩) rfl dL_law_305 hk ⟨Nat.le_refl _, Nat.le_refl _⟩ lw_hf) ?_
  refine rz_All_c (i := 41) (fun k J hk hJ => rz_aload_n_ok (pc := 308) hx hb dL_law_308 rfl hk) ?_
  refine rz_All_c (i := 42) (fun k J hk hJ => rz_aload_n_ok (pc := 309) hx hb dL_law_309 rfl hk) ?_
  refine rz_All_c (i := 43) (fun k J hk hJ => rz_iload_n_ok (pc := 310) hx hb dL_law_310 rfl hk) ?_
  refine rz_All_c (i := 44) (fun k J hk hJ => rz_iconst_ok (pc := 311) hx hb dL_law_311 rfl hk) ?_
  refine rz_All_c (i := 45) (fun k J hk hJ => rz_iadd_ok (pc := 312) hx hb dL_law_312 hk) ?_
  refine rz_All_c (i := 46) (fun k J hk hJ => rz_sld_ok (pc := 313) hx hb hX hbl hbA hn hn2 hv dL_law_313 hk) ?_
  refine rz_All_c (i := 47) (fun k J hk hJ => rz_aload_n_ok (pc := 314) hx hb dL_law_314 rfl hk) ?_
  refine rz_All_c (i := 48) (fun k J hk hJ => rz_iload_n_ok (pc := 315) hx hb dL_law_315 rfl hk) ?_
  refine rz_All_c (i := 49) (fun k J hk hJ => rz_iconst_ok (pc := 316) hx hb dL_law_316 rfl hk) ?_
  refine rz_All_c (i := 50) (fun k J hk hJ => rz_iadd_ok (pc := 317) hx hb dL_law_317 hk) ?_
  refine rz_All_c (i := 51) (fun k J hk hJ => rz_sld_ok (pc := 318) hx hb hX hbl hbA hn hn2 hv dL_law_318 hk) ?_
  refine rz_All_c (i := 52) (fun k J hk hJ => rz_callV_ok (pc := 319) (own := "ThreadJudgeLaw") (C := RX12) (T0 := TX12) (N0 := 257) (ci := 14) hC rfl (rmX12_change l hG) (lw_cw 2 htsL (lw_mL (i := 14) rfl) (lw_mL (i := 15) rfl) (lw_mL (i := 16) rfl) (lw_mL (i := 8) rfl) (lw_mL (i := 17) rfl) ⟨rfl, by decide, by decide, by decide +kernel⟩ ⟨by decide, by decide⟩) rfl dL_law_319 hk ⟨Nat.le_refl _, Nat.le_refl _⟩ lw_hf) ?_
  refine rz_All_c (i := 53) (fun k J hk hJ => rz_icmpeq_ok (pc := 322) hx hb dL_law_322 rfl hk (hJ 913)) ?_
  refine rz_All_c (i := 54) (fun k J hk hJ => rz_no_ok) ?_
  refine rz_All_c (i := 55) (fun k J hk hJ => rz_aload_n_ok (pc := 327) hx hb dL_law_327 rfl hk) ?_
  refine rz_All_c (i := 56) (fun k J hk hJ => rz_callV_ok (pc := 328) (own := "ThreadJudgeLaw") (C := RX11) (T0 := TX11) (N0 := 16) (ci := 13) hC rfl (rmX11_clear l hG) (lw_cw 0 htsL (lw_mL (i := 18) rfl) (lw_mL (i := 19) rfl) (lw_mL (i := 20) rfl) (lw_mL (i := 3) rfl) (lw_mL (i := 21) rfl) ⟨rfl, by decide, by decide, by decide +kernel⟩ ⟨by decide, by decide⟩) rfl dL_law_328 hk ⟨Nat.le_refl _, Nat.le_refl _⟩ lw_hf) ?_
  refine rz_All_c (i := 57) (fun k J hk hJ => rz_aload_n_ok (pc := 331) hx hb dL_law_331 rfl hk) ?_
  refine rz_All_c (i := 58) (fun k J hk hJ => rz_callV_ok (pc := 332) (own := "ThreadJudgeLaw") (C := RX12) (T0 := TX12) (N0 := 257) (ci := 14) hC rfl (rmX12_clear l hG) (lw_cw 0 htsL (lw_mL (i := 22) rfl) (lw_mL (i := 23) rfl) (lw_mL (i := 24) rfl) (lw_mL (i := 8) rfl) (lw_mL (i := 25) rfl) ⟨rfl, by decide, by decide, by decide +kernel⟩ ⟨by decide, by decide⟩) rfl dL_law_332 hk ⟨Nat.le_refl _, Nat.le_refl _⟩ lw_hf) ?_
  refine rz_All_c (i := 59) (fun k J hk hJ => rz_icmpeq_ok (pc := 335) hx hb dL_law_335 rfl hk (hJ 913)) ?_
  refine rz_All_c (i := 60) (fun k J hk hJ => rz_no_ok) ?_
  refine rz_All_c (i := 61) (fun k J hk hJ => rz_aload_n_ok (pc := 340) hx hb dL_law_340 rfl hk) ?_
  refine rz_All_c (i := 62) (fun k J hk hJ => rz_callV_ok (pc := 341) (own := "ThreadJudgeLaw") (C := RX11) (T0 := TX11) (N0 := 16) (ci := 13) hC rfl (rmoX11_load l hG) (lw_cw 0 htsL (lw_mL (i := 26) rfl) (lw_mL (i := 27) rfl) (lw_mL (i := 28) rfl) (lw_mL (i := 3) rfl) (lw_mL (i := 29) rfl) ⟨rfl, by decide, by decide, by decide +kernel⟩ ⟨by decide, by decide⟩) rfl dL_law_341 hk ⟨Nat.le_refl _, Nat.le_refl _⟩ lw_hf) ?_
  refine rz_All_c (i := 63) (fun k J hk hJ => rz_aload_n_ok (pc := 344) hx hb dL_law_344 rfl hk) ?_
  refine rz_All_c (i := 64) (fun k J hk hJ => rz_callV_ok (pc := 345) (own := "ThreadJudgeLaw") (C := RX12) (T0 := TX12) (N0 := 257) (ci := 14) hC rfl (rmoX12_load l hG) (lw_cw 0 htsL (lw_mL (i := 30) rfl) (lw_mL (i := 31) rfl) (lw_mL (i := 32) rfl) (lw_mL (i := 8) rfl) (lw_mL (i := 33) rfl) ⟨rfl, by decide, by decide, by decide +kernel⟩ ⟨by decide, by decide⟩) rfl dL_law_345 hk ⟨Nat.le_refl _, Nat.le_refl _⟩ lw_hf) ?_
  refine rz_All_c (i := 65) (fun k J hk hJ => rz_icmpeq_ok (pc := 348) hx hb dL_law_348 rfl hk (hJ 913)) ?_
  refine rz_All_c (i := 66) (fun k J hk hJ => rz_no_ok) ?_
  refine rz_All_c (i := 67) (fun k J hk hJ => rz_aload_n_ok (pc := 353) hx hb dL_law_353 rfl hk) ?_
  refine rz_All_c (i := 68) (fun k J hk hJ => rz_aload_n_ok (pc := 354) hx hb dL_law_354 rfl hk) ?_
  refine rz_All_c (i := 69) (fun k J hk hJ => rz_iload_n_ok (pc := 355) hx hb dL_law_355 rfl hk) ?_
  refine rz_All_c (i := 70) (fun k J hk hJ => rz_iconst_ok (pc := 356) hx hb dL_law_356 rfl hk) ?_
  refine rz_All_c (i := 71) (fun k J hk hJ => rz_iadd_ok (pc := 357) hx hb dL_law_357 hk) ?_
  refine rz_All_c (i := 72) (fun k J hk hJ => rz_sld_ok (pc := 358) hx hb hX hbl hbA hn hn2 hv dL_law_358 hk) ?_
  refine rz_All_c (i := 73) (fun k J hk hJ => rz_callV_ok (pc := 359) (own := "ThreadJudgeLaw") (C := RX11) (T0 := TX11) (N0 := 16) (ci := 13) hC rfl (rmX11_count l hG) (lw_cw 1 htsL (lw_mL (i := 34) rfl) (lw_mL (i := 35) rfl) (lw_mL (i := 36) rfl) (lw_mL (i := 3) rfl) (lw_mL (i := 37) rfl) ⟨rfl, by decide, by decide, by decide +kernel⟩ ⟨by decide, by decide⟩) rfl dL_law_359 hk ⟨Nat.le_refl _, Nat.le_refl _⟩ lw_hf) ?_
  refine rz_All_c (i := 74) (fun k J hk hJ => rz_aload_n_ok (pc := 362) hx hb dL_law_362 rfl hk) ?_
  refine rz_All_c (i := 75) (fun k J hk hJ => rz_aload_n_ok (pc := 363) hx hb dL_law_363 rfl hk) ?_
  refine rz_All_c (i := 76) (fun k J hk hJ => rz_iload_n_ok (pc := 364) hx hb dL_law_364 rfl hk) ?_
  refine rz_All_c (i := 77) (fun k J hk hJ => rz_iconst_ok (pc := 365) hx hb dL_law_365 rfl hk) ?_
  refine rz_All_c (i := 78) (fun k J hk hJ => rz_iadd_ok (pc := 366) hx hb dL_law_366 hk) ?_
  refine rz_All_c (i := 79) (fun k J hk hJ => rz_sld_ok (pc := 367) hx hb hX hbl hbA hn hn2 hv dL_law_367 hk) ?_
  refine rz_All_c (i := 80) (fun k J hk hJ => rz_callV_ok (pc := 368) (own := "ThreadJudgeLaw") (C := RX12) (T0 := TX12) (N0 := 257) (ci := 14) hC rfl (rmX12_count l hG) (lw_cw 1 htsL (lw_mL (i := 38) rfl) (lw_mL (i := 39) rfl) (lw_mL (i := 40) rfl) (lw_mL (i := 8) rfl) (lw_mL (i := 41) rfl) ⟨rfl, by decide, by decide, by decide +kernel⟩ ⟨by decide, by decide⟩) rfl dL_law_368 hk ⟨Nat.le_refl _, Nat.le_refl _⟩ lw_hf) ?_
  refine rz_All_c (i := 81) (fun k J hk hJ => rz_icmpeq_ok (pc := 371) hx hb dL_law_371 rfl hk (hJ 913)) ?_
  refine rz_All_c (i := 82) (fun k J hk hJ => rz_no_ok) ?_
  refine rz_All_c (i := 83) (fun k J hk hJ => rz_aload_n_ok (pc := 376) hx hb dL_law_376 rfl hk) ?_
  refine rz_All_c (i := 84) (fun k J hk hJ => rz_aload_n_ok (pc := 377) hx hb dL_law_377 rfl hk) ?_
  refine rz_All_c (i := 85) (fun k J hk hJ => rz_iload_n_ok (pc := 378) hx hb dL_law_378 rfl hk) ?_
  refine rz_All_c (i := 86) (fun k J hk hJ => rz_iconst_ok (pc := 379) hx hb dL_law_379 rfl hk) ?_
  refine rz_All_c (i := 87) (fun k J hk hJ => rz_iadd_ok (pc := 380) hx hb dL_law_380 hk) ?_
  refine rz_All_c (i := 88) (fun k J hk hJ => rz_sld_ok (pc := 381) hx hb hX hbl hbA hn hn2 hv dL_law_381 hk) ?_
  refine rz_All_c (i := 89) (fun k J hk hJ => rz_aload_n_ok (pc := 382) hx hb dL_law_382 rfl hk) ?_
  refine rz_All_c (i := 90) (fun k J hk hJ => rz_iload_n_ok (pc := 383) hx hb dL_law_383 rfl hk) ?_
  refine rz_All_c (i := 91) (fun k J hk hJ => rz_iconst_ok (pc := 384) hx hb dL_law_384 rfl hk) ?_
  refine rz_All_c (i := 92) (fun k J hk hJ => rz_iadd_ok (pc := 385) hx hb dL_law_385 hk) ?_
  refine rz_All_c (i := 93) (fun k J hk hJ => rz_sld_ok (pc := 386) hx hb hX hbl hbA hn hn2 hv dL_law_386 hk) ?_
  refine rz_All_c (i := 94) (fun k J hk hJ => rz_callV_ok (pc := 387) (own := "ThreadJudgeLaw") (C := RX11) (T0 := TX11) (N0 := 16) (ci := 13) hC rfl (rmX11_classOf l hG) (lw_cw 2 htsL (lw_mL (i := 42) rfl) (lw_mL (i := 43) rfl) (lw_mL (i := 44) rfl) (lw_mL (i := 3) rfl) (lw_mL (i := 45) rfl) ⟨rfl, by decide, by decide, by decide +kernel⟩ ⟨by decide, by decide⟩) rfl dL_law_387 hk ⟨Nat.le_refl _, Nat.le_refl _⟩ lw_hf) ?_
  refine rz_All_c (i := 95) (fun k J hk hJ => rz_aload_n_ok (pc := 390) hx hb dL_law_390 rfl hk) ?_
  refine rz_All_c (i := 96) (fun k J hk hJ => rz_aload_n_ok (pc := 391) hx hb dL_law_391 rfl hk) ?_
  refine rz_All_c (i := 97) (fun k J hk hJ => rz_iload_n_ok (pc := 392) hx hb dL_law_392 rfl hk) ?_
  refine rz_All_c (i := 98) (fun k J hk hJ => rz_iconst_ok (pc := 393) hx hb dL_law_393 rfl hk) ?_
  refine rz_All_c (i := 99) (fun k J hk hJ => rz_iadd_ok (pc := 394) hx hb dL_law_394 hk) ?_
  refine rz_All_c (i := 100) (fun k J hk hJ => rz_sld_ok (pc := 395) hx hb hX hbl hbA hn hn2 hv dL_law_395 hk) ?_
  refine rz_All_c (i := 101) (fun k J hk hJ => rz_aload_n_ok (pc := 396) hx hb dL_law_396 rfl hk) ?_
  refine rz_All_c (i := 102) (fun k J hk hJ => rz_iload_n_ok (pc := 397) hx hb dL_law_397 rfl hk) ?_
  refine rz_All_c (i := 103) (fun k J hk hJ => rz_iconst_ok (pc := 398) hx hb dL_law_398 rfl hk) ?_
  refine rz_All_c (i := 104) (fun k J hk hJ => rz_iadd_ok (pc := 399) hx hb dL_law_399 hk) ?_
  refine rz_All_c (i := 105) (fun k J hk hJ => rz_sld_ok (pc := 400) hx hb hX hbl hbA hn hn2 hv dL_law_400 hk) ?_
  refine rz_All_c (i := 106) (fun k J hk hJ => rz_callV_ok (pc := 401) (own := "ThreadJudgeLaw") (C := RX12) (T0 := TX12) (N0 := 257) (ci := 14) hC rfl (rmX12_classOf l hG) (lw_cw 2 htsL (lw_mL (i := 46) rfl) (lw_mL (i := 47) rfl) (lw_mL (i := 48) rfl) (lw_mL (i := 8) rfl) (lw_mL (i := 49) rfl) ⟨rfl, by decide, by decide, by decide +kernel⟩ ⟨by decide, by decide⟩) rfl dL_law_401 hk ⟨Nat.le_refl _, Nat.le_refl _⟩ lw_hf) ?_
  refine rz_All_c (i := 107) (fun k J hk hJ => rz_icmpeq_ok (pc := 404) hx hb dL_law_404 rfl hk (hJ 913)) ?_
  refine rz_All_c (i := 108) (fun k J hk hJ => rz_no_ok) ?_
  refine rz_All_c (i := 109) (fun k J hk hJ => rz_aload_n_ok (pc := 409) hx hb dL_law_409 rfl hk) ?_
  refine rz_All_c (i := 110) (fun k J hk hJ => rz_aload_n_ok (pc := 410) hx hb dL_law_410 rfl hk) ?_
  refine rz_All_c (i := 111) (fun k J hk hJ => rz_iload_n_ok (pc := 411) hx hb dL_law_411 rfl hk) ?_
  refine rz_All_c (i := 112) (fun k J hk hJ => rz_iconst_ok (pc := 412) hx hb dL_law_412 rfl hk) ?_
  refine rz_All_c (i := 113) (fun k J hk hJ => rz_iadd_ok (pc := 413) hx hb dL_law_413 hk) ?_
  refine rz_All_c (i := 114) (fun k J hk hJ => rz_sld_ok (pc := 414) hx hb hX hbl hbA hn hn2 hv dL_law_414 hk) ?_
  refine rz_All_c (i := 115) (fun k J hk hJ => rz_aload_n_ok (pc := 415) hx hb dL_law_415 rfl hk) ?_
  refine rz_All_c (i := 116) (fun k J hk hJ => rz_iload_n_ok (pc := 416) hx hb dL_law_416 rfl hk) ?_
  refine rz_All_c (i := 117) (fun k J hk hJ => rz_iconst_ok (pc := 417) hx hb dL_law_417 rfl hk) ?_
  refine rz_All_c (i := 118) (fun k J hk hJ => rz_iadd_ok (pc := 418) hx hb dL_law_418 hk) ?_
  refine rz_All_c (i := 119) (fun k J hk hJ => rz_sld_ok (pc := 419) hx hb hX hbl hbA hn hn2 hv dL_law_419 hk) ?_
  refine rz_All_c (i := 120) (fun k J hk hJ => rz_callV_ok (pc := 420) (own := "ThreadJudgeLaw") (C := RX11) (T0 := TX11) (N0 := 16) (ci := 13) hC rfl (rmX11_method l hG) (lw_cw 2 htsL (lw_mL (i := 50) rfl) (lw_mL (i := 51) rfl) (lw_mL (i := 52) rfl) (lw_mL (i := 3) rfl) (lw_mL (i := 53) rfl) ⟨rfl, by decide, by decide, by decide +kernel⟩ ⟨by decide, by decide⟩) rfl dL_law_420 hk ⟨Nat.le_refl _, Nat.le_refl _⟩ lw_hf) ?_
  refine rz_All_c (i := 121) (fun k J hk hJ => rz_aload_n_ok (pc := 423) hx hb dL_law_423 rfl hk) ?_
  refine rz_All_c (i := 122) (fun k J hk hJ => rz_aload_n_ok (pc := 424) hx hb dL_law_424 rfl hk) ?_
  refine rz_All_c (i := 123) (fun k J hk hJ => rz_iload_n_ok (pc := 425) hx hb dL_law_425 rfl hk) ?_
  refine rz_All_c (i := 124) (fun k J hk hJ => rz_iconst_ok (pc := 426) hx hb dL_law_426 rfl hk) ?_
  refine rz_All_c (i := 125) (fun k J hk hJ => rz_iadd_ok (pc := 427) hx hb dL_law_427 hk) ?_
  refine rz_All_c (i := 126) (fun k J hk hJ => rz_sld_ok (pc := 428) hx hb hX hbl hbA hn hn2 hv dL_law_428 hk) ?_
  refine rz_All_c (i := 127) (fun k J hk hJ => rz_aload_n_ok (pc := 429) hx hb dL_law_429 rfl hk) ?_
  refine rz_All_c (i := 128) (fun k J hk hJ => rz_iload_n_ok (pc := 430) hx hb dL_law_430 rfl hk) ?_
  refine rz_All_c (i := 129) (fun k J hk hJ => rz_iconst_ok (pc := 431) hx hb dL_law_431 rfl hk) ?_
  refine rz_All_c (i := 130) (fun k J hk hJ => rz_iadd_ok (pc := 432) hx hb dL_law_432 hk) ?_
  refine rz_All_c (i := 131) (fun k J hk hJ => rz_sld_ok (pc := 433) hx hb hX hbl hbA hn hn2 hv dL_law_433 hk) ?_
  refine rz_All_c (i := 132) (fun k J hk hJ => rz_callV_ok (pc := 434) (own := "ThreadJudgeLaw") (C := RX12) (T0 := TX12) (N0 := 257) (ci := 14) hC rfl (rmX12_method l hG) (lw_cw 2 htsL (lw_mL (i := 54) rfl) (lw_mL (i := 55) rfl) (lw_mL (i := 56) rfl) (lw_mL (i := 8) rfl) (lw_mL (i := 57) rfl) ⟨rfl, by decide, by decide, by decide +kernel⟩ ⟨by decide, by decide⟩) rfl dL_law_434 hk ⟨Nat.le_refl _, Nat.le_refl _⟩ lw_hf) ?_
  refine rz_All_c (i := 133) (fun k J hk hJ => rz_icmpeq_ok (pc := 437) hx hb dL_law_437 rfl hk (hJ 913)) ?_
  refine rz_All_c (i := 134) (fun k J hk hJ => rz_no_ok) ?_
  refine rz_All_c (i := 135) (fun k J hk hJ => rz_aload_n_ok (pc := 442) hx hb dL_law_442 rfl hk) ?_
  refine rz_All_c (i := 136) (fun k J hk hJ => rz_aload_n_ok (pc := 443) hx hb dL_law_443 rfl hk) ?_
  refine rz_All_c (i := 137) (fun k J hk hJ => rz_iload_n_ok (pc := 444) hx hb dL_law_444 rfl hk) ?_
  refine rz_All_c (i := 138) (fun k J hk hJ => rz_iconst_ok (pc := 445) hx hb dL_law_445 rfl hk) ?_
  refine rz_All_c (i := 139) (fun k J hk hJ => rz_iadd_ok (pc := 446) hx hb dL_law_446 hk) ?_
  refine rz_All_c (i := 140) (fun k J hk hJ => rz_sld_ok (pc := 447) hx hb hX hbl hbA hn hn2 hv dL_law_447 hk) ?_
  refine rz_All_c (i := 141) (fun k J hk hJ => rz_aload_n_ok (pc := 448) hx hb dL_law_448 rfl hk) ?_
  refine rz_All_c (i := 142) (fun k J hk hJ => rz_iload_n_ok (pc := 449) hx hb dL_law_449 rfl hk) ?_
  refine rz_All_c (i := 143) (fun k J hk hJ => rz_iconst_ok (pc := 450) hx hb dL_law_450 rfl hk) ?_
  refine rz_All_c (i := 144) (fun k J hk hJ => rz_iadd_ok (pc := 451) hx hb dL_law_451 hk) ?_
  refine rz_All_c (i := 145) (fun k J hk hJ => rz_sld_ok (pc := 452) hx hb hX hbl hbA hn hn2 hv dL_law_452 hk) ?_
  refine rz_All_c (i := 146) (fun k J hk hJ => rz_callV_ok (pc := 453) (own := "ThreadJudgeLaw") (C := RX11) (T0 := TX11) (N0 := 16) (ci := 13) hC rfl (rmX11_instruction l hG) (lw_cw 2 htsL (lw_mL (i := 58) rfl) (lw_mL (i := 59) rfl) (lw_mL (i := 60) rfl) (lw_mL (i := 3) rfl) (lw_mL (i := 61) rfl) ⟨rfl, by decide, by decide, by decide +kernel⟩ ⟨by decide, by decide⟩) rfl dL_law_453 hk ⟨Nat.le_refl _, Nat.le_refl _⟩ lw_hf) ?_
  refine rz_All_c (i := 147) (fun k J hk hJ => rz_aload_n_ok (pc := 456) hx hb dL_law_456 rfl hk) ?_
  refine rz_All_c (i := 148) (fun k J hk hJ => rz_aload_n_ok (pc := 457) hx hb dL_law_457 rfl hk) ?_
  refine rz_All_c (i := 149) (fun k J hk hJ => rz_iload_n_ok (pc := 458) hx hb dL_law_458 rfl hk) ?_
  refine rz_All_c (i := 150) (fun k J hk hJ => rz_iconst_ok (pc := 459) hx hb dL_law_459 rfl hk) ?_
  refine rz_All_c (i := 151) (fun k J hk hJ => rz_iadd_ok (pc := 460) hx hb dL_law_460 hk) ?_
  refine rz_All_c (i := 152) (fun k J hk hJ => rz_sld_ok (pc := 461) hx hb hX hbl hbA hn hn2 hv dL_law_461 hk) ?_
  refine rz_All_c (i := 153) (fun k J hk hJ => rz_aload_n_ok (pc := 462) hx hb dL_law_462 rfl hk) ?_
  refine rz_All_c (i := 154) (fun k J hk hJ => rz_iload_n_ok (pc := 463) hx hb dL_law_463 rfl hk) ?_
  refine rz_All_c (i := 155) (fun k J hk hJ => rz_iconst_ok (pc := 464) hx hb dL_law_464 rfl hk) ?_
  refine rz_All_c (i := 156) (fun k J hk hJ => rz_iadd_ok (pc := 465) hx hb dL_law_465 hk) ?_
  refine rz_All_c (i := 157) (fun k J hk hJ => rz_sld_ok (pc := 466) hx hb hX hbl hbA hn hn2 hv dL_law_466 hk) ?_
  refine rz_All_c (i := 158) (fun k J hk hJ => rz_callV_ok (pc := 467) (own := "ThreadJudgeLaw") (C := RX12) (T0 := TX12) (N0 := 257) (ci := 14) hC rfl (rmX12_instruction l hG) (lw_cw 2 htsL (lw_mL (i := 62) rfl) (lw_mL (i := 63) rfl) (lw_mL (i := 64) rfl) (lw_mL (i := 8) rfl) (lw_mL (i := 65) rfl) ⟨rfl, by decide, by decide, by decide +kernel⟩ ⟨by decide, by decide⟩) rfl dL_law_467 hk ⟨Nat.le_refl _, Nat.le_refl _⟩ lw_hf) ?_
  refine rz_All_c (i := 159) (fun k J hk hJ => rz_icmpeq_ok (pc := 470) hx hb dL_law_470 rfl hk (hJ 913)) ?_
  refine rz_All_c (i := 160) (fun k J hk hJ => rz_no_ok) ?_
  refine rz_All_c (i := 161) (fun k J hk hJ => rz_aload_n_ok (pc := 475) hx hb dL_law_475 rfl hk) ?_
  refine rz_All_c (i := 162) (fun k J hk hJ => rz_aload_n_ok (pc := 476) hx hb dL_law_476 rfl hk) ?_
  refine rz_All_c (i := 163) (fun k J hk hJ => rz_iload_n_ok (pc := 477) hx hb dL_law_477 rfl hk) ?_
  refine rz_All_c (i := 164) (fun k J hk hJ => rz_iconst_ok (pc := 478) hx hb dL_law_478 rfl hk) ?_
  refine rz_All_c (i := 165) (fun k J hk hJ => rz_iadd_ok (pc := 479) hx hb dL_law_479 hk) ?_
  refine rz_All_c (i := 166) (fun k J hk hJ => rz_sld_ok (pc := 480) hx hb hX hbl hbA hn hn2 hv dL_law_480 hk) ?_
  refine rz_All_c (i := 167) (fun k J hk hJ => rz_aload_n_ok (pc := 481) hx hb dL_law_481 rfl hk) ?_
  refine rz_All_c (i := 168) (fun k J hk hJ => rz_iload_n_ok (pc := 482) hx hb dL_law_482 rfl hk) ?_
  refine rz_All_c (i := 169) (fun k J hk hJ => rz_iconst_ok (pc := 483) hx hb dL_law_483 rfl hk) ?_
  refine rz_All_c (i := 170) (fun k J hk hJ => rz_iadd_ok (pc := 484) hx hb dL_law_484 hk) ?_
  refine rz_All_c (i := 171) (fun k J hk hJ => rz_sld_ok (pc := 485) hx hb hX hbl hbA hn hn2 hv dL_law_485 hk) ?_
  refine rz_All_c (i := 172) (fun k J hk hJ => rz_callV_ok (pc := 486) (own := "ThreadJudgeLaw") (C := RX11) (T0 := TX11) (N0 := 16) (ci := 13) hC rfl (rmX11_below l hG) (lw_cw 2 htsL (lw_mL (i := 66) rfl) (lw_mL (i := 67) rfl) (lw_mL (i := 68) rfl) (lw_mL (i := 3) rfl) (lw_mL (i := 69) rfl) ⟨rfl, by decide, by decide, by decide +kernel⟩ ⟨by decide, by decide⟩) rfl dL_law_486 hk ⟨Nat.le_refl _, Nat.le_refl _⟩ lw_hf) ?_
  refine rz_All_c (i := 173) (fun k J hk hJ => rz_aload_n_ok (pc := 489) hx hb dL_law_489 rfl hk) ?_
  refine rz_All_c (i := 174) (fun k J hk hJ => rz_aload_n_ok (pc := 490) hx hb dL_law_490 rfl hk) ?_
  refine rz_All_c (i := 175) (fun k J hk hJ => rz_iload_n_ok (pc := 491) hx hb dL_law_491 rfl hk) ?_
  refine rz_All_c (i := 176) (fun k J hk hJ => rz_iconst_ok (pc := 492) hx hb dL_law_492 rfl hk) ?_
  refine rz_All_c (i := 177) (fun k J hk hJ => rz_iadd_ok (pc := 493) hx hb dL_law_493 hk) ?_
  refine rz_All_c (i := 178) (fun k J hk hJ => rz_sld_ok (pc := 494) hx hb hX hbl hbA hn hn2 hv dL_law_494 hk) ?_
  refine rz_All_c (i := 179) (fun k J hk hJ => rz_aload_n_ok (pc := 495) hx hb dL_law_495 rfl hk) ?_
  refine rz_All_c (i := 180) (fun k J hk hJ => rz_iload_n_ok (pc := 496) hx hb dL_law_496 rfl hk) ?_
  refine rz_All_c (i := 181) (fun k J hk hJ => rz_iconst_ok (pc := 497) hx hb dL_law_497 rfl hk) ?_
  refine rz_All_c (i := 182) (fun k J hk hJ => rz_iadd_ok (pc := 498) hx hb dL_law_498 hk) ?_
  refine rz_All_c (i := 183) (fun k J hk hJ => rz_sld_ok (pc := 499) hx hb hX hbl hbA hn hn2 hv dL_law_499 hk) ?_
  refine rz_All_c (i := 184) (fun k J hk hJ => rz_callV_ok (pc := 500) (own := "ThreadJudgeLaw") (C := RX12) (T0 := TX12) (N0 := 257) (ci := 14) hC rfl (rmX12_below l hG) (lw_cw 2 htsL (lw_mL (i := 70) rfl) (lw_mL (i := 71) rfl) (lw_mL (i := 72) rfl) (lw_mL (i := 8) rfl) (lw_mL (i := 73) rfl) ⟨rfl, by decide, by decide, by decide +kernel⟩ ⟨by decide, by decide⟩) rfl dL_law_500 hk ⟨Nat.le_refl _, Nat.le_refl _⟩ lw_hf) ?_
  refine rz_All_c (i := 185) (fun k J hk hJ => rz_icmpeq_ok (pc := 503) hx hb dL_law_503 rfl hk (hJ 913)) ?_
  refine rz_All_c (i := 186) (fun k J hk hJ => rz_no_ok) ?_
  refine rz_All_c (i := 187) (fun k J hk hJ => rz_aload_n_ok (pc := 508) hx hb dL_law_508 rfl hk) ?_
  refine rz_All_c (i := 188) (fun k J hk hJ => rz_aload_n_ok (pc := 509) hx hb dL_law_509 rfl hk) ?_
  refine rz_All_c (i := 189) (fun k J hk hJ => rz_iload_n_ok (pc := 510) hx hb dL_law_510 rfl hk) ?_
  refine rz_All_c (i := 190) (fun k J hk hJ => rz_iconst_ok (pc := 511) hx hb dL_law_511 rfl hk) ?_
  refine rz_All_c (i := 191) (fun k J hk hJ => rz_iadd_ok (pc := 512) hx hb dL_law_512 hk) ?_
  refine rz_All_c (i := 192) (fun k J hk hJ => rz_sld_ok (pc := 513) hx hb hX hbl hbA hn hn2 hv dL_law_513 hk) ?_
  refine rz_All_c (i := 193) (fun k J hk hJ => rz_aload_n_ok (pc := 514) hx hb dL_law_514 rfl hk) ?_
  refine rz_All_c (i := 194) (fun k J hk hJ => rz_iload_n_ok (pc := 515) hx hb dL_law_515 rfl hk) ?_
  refine rz_All_c (i := 195) (fun k J hk hJ => rz_iconst_ok (pc := 516) hx hb dL_law_516 rfl hk) ?_
  refine rz_All_c (i := 196) (fun k J hk hJ => rz_iadd_ok (pc := 517) hx hb dL_law_517 hk) ?_
  refine rz_All_c (i := 197) (fun k J hk hJ => rz_sld_ok (pc := 518) hx hb hX hbl hbA hn hn2 hv dL_law_518 hk) ?_
  refine rz_All_c (i := 198) (fun k J hk hJ => rz_callV_ok (pc := 519) (own := "ThreadJudgeLaw") (C := RX11) (T0 := TX11) (N0 := 16) (ci := 13) hC rfl (rmX11_selected l hG) (lw_cw 2 htsL (lw_mL (i := 74) rfl) (lw_mL (i := 75) rfl) (lw_mL (i := 76) rfl) (lw_mL (i := 3) rfl) (lw_mL (i := 77) rfl) ⟨rfl, by decide, by decide, by decide +kernel⟩ ⟨by decide, by decide⟩) rfl dL_law_519 hk ⟨Nat.le_refl _, Nat.le_refl _⟩ lw_hf) ?_
  refine rz_All_c (i := 199) (fun k J hk hJ => rz_aload_n_ok (pc := 522) hx hb dL_law_522 rfl hk) ?_
  refine rz_All_c (i := 200) (fun k J hk hJ => rz_aload_n_ok (pc := 523) hx hb dL_law_523 rfl hk) ?_
  refine rz_All_c (i := 201) (fun k J hk hJ => rz_iload_n_ok (pc := 524) hx hb dL_law_524 rfl hk) ?_
  refine rz_All_c (i := 202) (fun k J hk hJ => rz_iconst_ok (pc := 525) hx hb dL_law_525 rfl hk) ?_
  refine rz_All_c (i := 203) (fun k J hk hJ => rz_iadd_ok (pc := 526) hx hb dL_law_526 hk) ?_
  refine rz_All_c (i := 204) (fun k J hk hJ => rz_sld_ok (pc := 527) hx hb hX hbl hbA hn hn2 hv dL_law_527 hk) ?_
  refine rz_All_c (i := 205) (fun k J hk hJ => rz_aload_n_ok (pc := 528) hx hb dL_law_528 rfl hk) ?_
  refine rz_All_c (i := 206) (fun k J hk hJ => rz_iload_n_ok (pc := 529) hx hb dL_law_529 rfl hk) ?_
  refine rz_All_c (i := 207) (fun k J hk hJ => rz_iconst_ok (pc := 530) hx hb dL_law_530 rfl hk) ?_
  refine rz_All_c (i := 208) (fun k J hk hJ => rz_iadd_ok (pc := 531) hx hb dL_law_531 hk) ?_
  refine rz_All_c (i := 209) (fun k J hk hJ => rz_sld_ok (pc := 532) hx hb hX hbl hbA hn hn2 hv dL_law_532 hk) ?_
  refine rz_All_c (i := 210) (fun k J hk hJ => rz_callV_ok (pc := 533) (own := "ThreadJudgeLaw") (C := RX12) (T0 := TX12) (N0 := 257) (ci := 14) hC rfl (rmX12_selected l hG) (lw_cw 2 htsL (lw_mL (i := 78) rfl) (lw_mL (i := 79) rfl) (lw_mL (i := 80) rfl) (lw_mL (i := 8) rfl) (lw_mL (i := 81) rfl) ⟨rfl, by decide, by decide, by decide +kernel⟩ ⟨by decide, by decide⟩) rfl dL_law_533 hk ⟨Nat.le_refl _, Nat.le_refl _⟩ lw_hf) ?_
  refine rz_All_c (i := 211) (fun k J hk hJ => rz_icmpeq_ok (pc := 536) hx hb dL_law_536 rfl hk (hJ 913)) ?_
  refine rz_All_c (i := 212) (fun k J hk hJ => rz_no_ok) ?_
  refine rz_All_c (i := 213) (fun k J hk hJ => rz_aload_n_ok (pc := 541) hx hb dL_law_541 rfl hk) ?_
  refine rz_All_c (i := 214) (fun k J hk hJ => rz_aload_n_ok (pc := 542) hx hb dL_law_542 rfl hk) ?_
  refine rz_All_c (i := 215) (fun k J hk hJ => rz_iload_n_ok (pc := 543) hx hb dL_law_543 rfl hk) ?_
  refine rz_All_c (i := 216) (fun k J hk hJ => rz_iconst_ok (pc := 544) hx hb dL_law_544 rfl hk) ?_
  refine rz_All_c (i := 217) (fun k J hk hJ => rz_iadd_ok (pc := 545) hx hb dL_law_545 hk) ?_
  refine rz_All_c (i := 218) (fun k J hk hJ => rz_sld_ok (pc := 546) hx hb hX hbl hbA hn hn2 hv dL_law_546 hk) ?_
  refine rz_All_c (i := 219) (fun k J hk hJ => rz_aload_n_ok (pc := 547) hx hb dL_law_547 rfl hk) ?_
  refine rz_All_c (i := 220) (fun k J hk hJ => rz_iload_n_ok (pc := 548) hx hb dL_law_548 rfl hk) ?_
  refine rz_All_c (i := 221) (fun k J hk hJ => rz_iconst_ok (pc := 549) hx hb dL_law_549 rfl hk) ?_
  refine rz_All_c (i := 222) (fun k J hk hJ => rz_iadd_ok (pc := 550) hx hb dL_law_550 hk) ?_
  refine rz_All_c (i := 223) (fun k J hk hJ => rz_sld_ok (pc := 551) hx hb hX hbl hbA hn hn2 hv dL_law_551 hk) ?_
  refine rz_All_c (i := 224) (fun k J hk hJ => rz_aload_n_ok (pc := 552) hx hb dL_law_552 rfl hk) ?_
  refine rz_All_c (i := 225) (fun k J hk hJ => rz_iload_n_ok (pc := 553) hx hb dL_law_553 rfl hk) ?_
  refine rz_All_c (i := 226) (fun k J hk hJ => rz_iconst_ok (pc := 554) hx hb dL_law_554 rfl hk) ?_
  refine rz_All_c (i := 227) (fun k J hk hJ => rz_iadd_ok (pc := 555) hx hb dL_law_555 hk) ?_
  refine rz_All_c (i := 228) (fun k J hk hJ => rz_sld_ok (pc := 556) hx hb hX hbl hbA hn hn2 hv dL_law_556 hk) ?_
  refine rz_All_c (i := 229) (fun k J hk hJ => rz_callV_ok (pc := 557) (own := "ThreadJudgeLaw") (C := RX11) (T0 := TX11) (N0 := 16) (ci := 13) hC rfl (rmX11_kind l hG) (lw_cw 3 htsL (lw_mL (i := 82) rfl) (lw_mL (i := 83) rfl) (lw_mL (i := 84) rfl) (lw_mL (i := 3) rfl) (lw_mL (i := 85) rfl) ⟨rfl, by decide, by decide, by decide +kernel⟩ ⟨by decide, by decide⟩) rfl dL_law_557 hk ⟨Nat.le_refl _, Nat.le_refl _⟩ lw_hf) ?_
  refine rz_All_c (i := 230) (fun k J hk hJ => rz_aload_n_ok (pc := 560) hx hb dL_law_560 rfl hk) ?_
  refine rz_All_c (i := 231) (fun k J hk hJ => rz_aload_n_ok (pc := 561) hx hb dL_law_561 rfl hk) ?_
  refine rz_All_c (i := 232) (fun k J hk hJ => rz_iload_n_ok (pc := 562) hx hb dL_law_562 rfl hk) ?_
  refine rz_All_c (i := 233) (fun k J hk hJ => rz_iconst_ok (pc := 563) hx hb dL_law_563 rfl hk) ?_
  refine rz_All_c (i := 234) (fun k J hk hJ => rz_iadd_ok (pc := 564) hx hb dL_law_564 hk) ?_
  refine rz_All_c (i := 235) (fun k J hk hJ => rz_sld_ok (pc := 565) hx hb hX hbl hbA hn hn2 hv dL_law_565 hk) ?_
  refine rz_All_c (i := 236) (fun k J hk hJ => rz_aload_n_ok (pc := 566) hx hb dL_law_566 rfl hk) ?_
  refine rz_All_c (i := 237) (fun k J hk hJ => rz_iload_n_ok (pc := 567) hx hb dL_law_567 rfl hk) ?_
  refine rz_All_c (i := 238) (fun k J hk hJ => rz_iconst_ok (pc := 568) hx hb dL_law_568 rfl hk) ?_
  refine rz_All_c (i := 239) (fun k J hk hJ => rz_iadd_ok (pc := 569) hx hb dL_law_569 hk) ?_
  refine rz_All_c (i := 240) (fun k J hk hJ => rz_sld_ok (pc := 570) hx hb hX hbl hbA hn hn2 hv dL_law_570 hk) ?_
  refine rz_All_c (i := 241) (fun k J hk hJ => rz_aload_n_ok (pc := 571) hx hb dL_law_571 rfl hk) ?_
  refine rz_All_c (i := 242) (fun k J hk hJ => rz_iload_n_ok (pc := 572) hx hb dL_law_572 rfl hk) ?_
  refine rz_All_c (i := 243) (fun k J hk hJ => rz_iconst_ok (pc := 573) hx hb dL_law_573 rfl hk) ?_
  refine rz_All_c (i := 244) (fun k J hk hJ => rz_iadd_ok (pc := 574) hx hb dL_law_574 hk) ?_
  refine rz_All_c (i := 245) (fun k J hk hJ => rz_sld_ok (pc := 575) hx hb hX hbl hbA hn hn2 hv dL_law_575 hk) ?_
  refine rz_All_c (i := 246) (fun k J hk hJ => rz_callV_ok (pc := 576) (own := "ThreadJudgeLaw") (C := RX12) (T0 := TX12) (N0 := 257) (ci := 14) hC rfl (rmX12_kind l hG) (lw_cw 3 htsL (lw_mL (i := 86) rfl) (lw_mL (i := 87) rfl) (lw_mL (i := 88) rfl) (lw_mL (i := 8) rfl) (lw_mL (i := 89) rfl) ⟨rfl, by decide, by decide, by decide +kernel⟩ ⟨by decide, by decide⟩) rfl dL_law_576 hk ⟨Nat.le_refl _, Nat.le_refl _⟩ lw_hf) ?_
  refine rz_All_c (i := 247) (fun k J hk hJ => rz_icmpeq_ok (pc := 579) hx hb dL_law_579 rfl hk (hJ 913)) ?_
  refine rz_All_c (i := 248) (fun k J hk hJ => rz_no_ok) ?_
  refine rz_All_c (i := 249) (fun k J hk hJ => rz_aload_n_ok (pc := 584) hx hb dL_law_584 rfl hk) ?_
  refine rz_All_c (i := 250) (fun k J hk hJ => rz_aload_n_ok (pc := 585) hx hb dL_law_585 rfl hk) ?_
  refine rz_All_c (i := 251) (fun k J hk hJ => rz_iload_n_ok (pc := 586) hx hb dL_law_586 rfl hk) ?_
  refine rz_All_c (i := 252) (fun k J hk hJ => rz_iconst_ok (pc := 587) hx hb dL_law_587 rfl hk) ?_
  refine rz_All_c (i := 253) (fun k J hk hJ => rz_iadd_ok (pc := 588) hx hb dL_law_588 hk) ?_
  refine rz_All_c (i := 254) (fun k J hk hJ => rz_sld_ok (pc := 589) hx hb hX hbl hbA hn hn2 hv dL_law_589 hk) ?_
  refine rz_All_c (i := 255) (fun k J hk hJ => rz_aload_n_ok (pc := 590) hx hb dL_law_590 rfl hk) ?_
  refine rz_All_c (i := 256) (fun k J hk hJ => rz_iload_n_ok (pc := 591) hx hb dL_law_591 rfl hk) ?_
  refine rz_All_c (i := 257) (fun k J hk hJ => rz_iconst_ok (pc := 592) hx hb dL_law_592 rfl hk) ?_
  refine rz_All_c (i := 258) (fun k J hk hJ => rz_iadd_ok (pc := 593) hx hb dL_law_593 hk) ?_
  refine rz_All_c (i := 259) (fun k J hk hJ => rz_sld_ok (pc := 594) hx hb hX hbl hbA hn hn2 hv dL_law_594 hk) ?_
  refine rz_All_c (i := 260) (fun k J hk hJ => rz_callV_ok (pc := 595) (own := "ThreadJudgeLaw") (C := RX11) (T0 := TX11) (N0 := 16) (ci := 13) hC rfl (rmX11_analyse l hG) (lw_cw 2 htsL (lw_mL (i := 90) rfl) (lw_mL (i := 91) rfl) (lw_mL (i := 92) rfl) (lw_mL (i := 3) rfl) (lw_mL (i := 93) rfl) ⟨rfl, by decide, by decide, by decide +kernel⟩ ⟨by decide, by decide⟩) rfl dL_law_595 hk ⟨Nat.le_refl _, Nat.le_refl _⟩ lw_hf) ?_
  refine rz_All_c (i := 261) (fun k J hk hJ => rz_aload_n_ok (pc := 598) hx hb dL_law_598 rfl hk) ?_
  refine rz_All_c (i := 262) (fun k J hk hJ => rz_aload_n_ok (pc := 599) hx hb dL_law_599 rfl hk) ?_
  refine rz_All_c (i := 263) (fun k J hk hJ => rz_iload_n_ok (pc := 600) hx hb dL_law_600 rfl hk) ?_
  refine rz_All_c (i := 264) (fun k J hk hJ => rz_iconst_ok (pc := 601) hx hb dL_law_601 rfl hk) ?_
  refine rz_All_c (i := 265) (fun k J hk hJ => rz_iadd_ok (pc := 602) hx hb dL_law_602 hk) ?_
  refine rz_All_c (i := 266) (fun k J hk hJ => rz_sld_ok (pc := 603) hx hb hX hbl hbA hn hn2 hv dL_law_603 hk) ?_
  refine rz_All_c (i := 267) (fun k J hk hJ => rz_aload_n_ok (pc := 604) hx hb dL_law_604 rfl hk) ?_
  refine rz_All_c (i := 268) (fun k J hk hJ => rz_iload_n_ok (pc := 605) hx hb dL_law_605 rfl hk) ?_
  refine rz_All_c (i := 269) (fun k J hk hJ => rz_iconst_ok (pc := 606) hx hb dL_law_606 rfl hk) ?_
  refine rz_All_c (i := 270) (fun k J hk hJ => rz_iadd_ok (pc := 607) hx hb dL_law_607 hk) ?_
  refine rz_All_c (i := 271) (fun k J hk hJ => rz_sld_ok (pc := 608) hx hb hX hbl hbA hn hn2 hv dL_law_608 hk) ?_
  refine rz_All_c (i := 272) (fun k J hk hJ => rz_callV_ok (pc := 609) (own := "ThreadJudgeLaw") (C := RX12) (T0 := TX12) (N0 := 257) (ci := 14) hC rfl (rmX12_analyse l hG) (lw_cw 2 htsL (lw_mL (i := 94) rfl) (lw_mL (i := 95) rfl) (lw_mL (i := 96) rfl) (lw_mL (i := 8) rfl) (lw_mL (i := 97) rfl) ⟨rfl, by decide, by decide, by decide +kernel⟩ ⟨by decide, by decide⟩) rfl dL_law_609 hk ⟨Nat.le_refl _, Nat.le_refl _⟩ lw_hf) ?_
  refine rz_All_c (i := 273) (fun k J hk hJ => rz_icmpeq_ok (pc := 612) hx hb dL_law_612 rfl hk (hJ 913)) ?_
  refine rz_All_c (i := 274) (fun k J hk hJ => rz_no_ok) ?_
  refine rz_All_c (i := 275) (fun k J hk hJ => rz_aload_n_ok (pc := 617) hx hb dL_law_617 rfl hk) ?_
  refine rz_All_c (i := 276) (fun k J hk hJ => rz_aload_n_ok (pc := 618) hx hb dL_law_618 rfl hk) ?_
  refine rz_All_c (i := 277) (fun k J hk hJ => rz_iload_n_ok (pc := 619) hx hb dL_law_619 rfl hk) ?_
  refine rz_All_c (i := 278) (fun k J hk hJ => rz_iconst_ok (pc := 620) hx hb dL_law_620 rfl hk) ?_
  refine rz_All_c (i := 279) (fun k J hk hJ => rz_iadd_ok (pc := 621) hx hb dL_law_621 hk) ?_
  refine rz_All_c (i := 280) (fun k J hk hJ => rz_sld_ok (pc := 622) hx hb hX hbl hbA hn hn2 hv dL_law_622 hk) ?_
  refine rz_All_c (i := 281) (fun k J hk hJ => rz_aload_n_ok (pc := 623) hx hb dL_law_623 rfl hk) ?_
  refine rz_All_c (i := 282) (fun k J hk hJ => rz_iload_n_ok (pc := 624) hx hb dL_law_624 rfl hk) ?_
  refine rz_All_c (i := 283) (fun k J hk hJ => rz_iconst_ok (pc := 625) hx hb dL_law_625 rfl hk) ?_
  refine rz_All_c (i := 284) (fun k J hk hJ => rz_iadd_ok (pc := 626) hx hb dL_law_626 hk) ?_
  refine rz_All_c (i := 285) (fun k J hk hJ => rz_sld_ok (pc := 627) hx hb hX hbl hbA hn hn2 hv dL_law_627 hk) ?_
  refine rz_All_c (i := 286) (fun k J hk hJ => rz_aload_n_ok (pc := 628) hx hb dL_law_628 rfl hk) ?_
  refine rz_All_c (i := 287) (fun k J hk hJ => rz_iload_n_ok (pc := 629) hx hb dL_law_629 rfl hk) ?_
  refine rz_All_c (i := 288) (fun k J hk hJ => rz_iconst_ok (pc := 630) hx hb dL_law_630 rfl hk) ?_
  refine rz_All_c (i := 289) (fun k J hk hJ => rz_iadd_ok (pc := 631) hx hb dL_law_631 hk) ?_
  refine rz_All_c (i := 290) (fun k J hk hJ => rz_sld_ok (pc := 632) hx hb hX hbl hbA hn hn2 hv dL_law_632 hk) ?_
  refine rz_All_c (i := 291) (fun k J hk hJ => rz_callV_ok (pc := 633) (own := "ThreadJudgeLaw") (C := RX11) (T0 := TX11) (N0 := 16) (ci := 13) hC rfl (rmX11_holds l hG) (lw_cw 3 htsL (lw_mL (i := 98) rfl) (lw_mL (i := 99) rfl) (lw_mL (i := 100) rfl) (lw_mL (i := 3) rfl) (lw_mL (i := 101) rfl) ⟨rfl, by decide, by decide, by decide +kernel⟩ ⟨by decide, by decide⟩) rfl dL_law_633 hk ⟨Nat.le_refl _, Nat.le_refl _⟩ lw_hf) ?_
  refine rz_All_c (i := 292) (fun k J hk hJ => rz_aload_n_ok (pc := 636) hx hb dL_law_636 rfl hk) ?_
  refine rz_All_c (i := 293) (fun k J hk hJ => rz_aload_n_ok (pc := 637) hx hb dL_law_637 rfl hk) ?_
  refine rz_All_c (i := 294) (fun k J hk hJ => rz_iload_n_ok (pc := 638) hx hb dL_law_638 rfl hk) ?_
  refine rz_All_c (i := 295) (fun k J hk hJ => rz_iconst_ok (pc := 639) hx hb dL_law_639 rfl hk) ?_
  refine rz_All_c (i := 296) (fun k J hk hJ => rz_iadd_ok (pc := 640) hx hb dL_law_640 hk) ?_
  refine rz_All_c (i := 297) (fun k J hk hJ => rz_sld_ok (pc := 641) hx hb hX hbl hbA hn hn2 hv dL_law_641 hk) ?_
  refine rz_All_c (i := 298) (fun k J hk hJ => rz_aload_n_ok (pc := 642) hx hb dL_law_642 rfl hk) ?_
  refine rz_All_c (i := 299) (fun k J hk hJ => rz_iload_n_ok (pc := 643) hx hb dL_law_643 rfl hk) ?_
  refine rz_All_c (i := 300) (fun k J hk hJ => rz_iconst_ok (pc := 644) hx hb dL_law_644 rfl hk) ?_
  refine rz_All_c (i := 301) (fun k J hk hJ => rz_iadd_ok (pc := 645) hx hb dL_law_645 hk) ?_
  refine rz_All_c (i := 302) (fun k J hk hJ => rz_sld_ok (pc := 646) hx hb hX hbl hbA hn hn2 hv dL_law_646 hk) ?_
  refine rz_All_c (i := 303) (fun k J hk hJ => rz_aload_n_ok (pc := 647) hx hb dL_law_647 rfl hk) ?_
  refine rz_All_c (i := 304) (fun k J hk hJ => rz_iload_n_ok (pc := 648) hx hb dL_law_648 rfl hk) ?_
  refine rz_All_c (i := 305) (fun k J hk hJ => rz_iconst_ok (pc := 649) hx hb dL_law_649 rfl hk) ?_
  refine rz_All_c (i := 306) (fun k J hk hJ => rz_iadd_ok (pc := 650) hx hb dL_law_650 hk) ?_
  refine rz_All_c (i := 307) (fun k J hk hJ => rz_sld_ok (pc := 651) hx hb hX hbl hbA hn hn2 hv dL_law_651 hk) ?_
  refine rz_All_c (i := 308) (fun k J hk hJ => rz_callV_ok (pc := 652) (own := "ThreadJudgeLaw") (C := RX12) (T0 := TX12) (N0 := 257) (ci := 14) hC rfl (rmX12_holds l hG) (lw_cw 3 htsL (lw_mL (i := 102) rfl) (lw_mL (i := 103) rfl) (lw_mL (i := 104) rfl) (lw_mL (i := 8) rfl) (lw_mL (i := 105) rfl) ⟨rfl, by decide, by decide, by decide +kernel⟩ ⟨by decide, by decide⟩) rfl dL_law_652 hk ⟨Nat.le_refl _, Nat.le_refl _⟩ lw_hf) ?_
  refine rz_All_c (i := 309) (fun k J hk hJ => rz_icmpeq_ok (pc := 655) hx hb dL_law_655 rfl hk (hJ 913)) ?_
  refine rz_All_c (i := 310) (fun k J hk hJ => rz_no_ok) ?_
  refine rz_All_c (i := 311) (fun k J hk hJ => rz_aload_n_ok (pc := 660) hx hb dL_law_660 rfl hk) ?_
  refine rz_All_c (i := 312) (fun k J hk hJ => rz_aload_n_ok (pc := 661) hx hb dL_law_661 rfl hk) ?_
  refine rz_All_c (i := 313) (fun k J hk hJ => rz_iload_n_ok (pc := 662) hx hb dL_law_662 rfl hk) ?_
  refine rz_All_c (i := 314) (fun k J hk hJ => rz_iconst_ok (pc := 663) hx hb dL_law_663 rfl hk) ?_
  refine rz_All_c (i := 315) (fun k J hk hJ => rz_iadd_ok (pc := 664) hx hb dL_law_664 hk) ?_
  refine rz_All_c (i := 316) (fun k J hk hJ => rz_sld_ok (pc := 665) hx hb hX hbl hbA hn hn2 hv dL_law_665 hk) ?_
  refine rz_All_c (i := 317) (fun k J hk hJ => rz_aload_n_ok (pc := 666) hx hb dL_law_666 rfl hk) ?_
  refine rz_All_c (i := 318) (fun k J hk hJ => rz_iload_n_ok (pc := 667) hx hb dL_law_667 rfl hk) ?_
  refine rz_All_c (i := 319) (fun k J hk hJ => rz_iconst_ok (pc := 668) hx hb dL_law_668 rfl hk) ?_
  refine rz_All_c (i := 320) (fun k J hk hJ => rz_iadd_ok (pc := 669) hx hb dL_law_669 hk) ?_
  refine rz_All_c (i := 321) (fun k J hk hJ => rz_sld_ok (pc := 670) hx hb hX hbl hbA hn hn2 hv dL_law_670 hk) ?_
  refine rz_All_c (i := 322) (fun k J hk hJ => rz_callV_ok (pc := 671) (own := "ThreadJudgeLaw") (C := RX11) (T0 := TX11) (N0 := 16) (ci := 13) hC rfl (rmX11_object l hG) (lw_cw 2 htsL (lw_mL (i := 106) rfl) (lw_mL (i := 107) rfl) (lw_mL (i := 108) rfl) (lw_mL (i := 3) rfl) (lw_mL (i := 109) rfl) ⟨rfl, by decide, by decide, by decide +kernel⟩ ⟨by decide, by decide⟩) rfl dL_law_671 hk ⟨Nat.le_refl _, Nat.le_refl _⟩ lw_hf) ?_
  refine rz_All_c (i := 323) (fun k J hk hJ => rz_aload_n_ok (pc := 674) hx hb dL_law_674 rfl hk) ?_
  refine rz_All_c (i := 324) (fun k J hk hJ => rz_aload_n_ok (pc := 675) hx hb dL_law_675 rfl hk) ?_
  refine rz_All_c (i := 325) (fun k J hk hJ => rz_iload_n_ok (pc := 676) hx hb dL_law_676 rfl hk) ?_
  refine rz_All_c (i := 326) (fun k J hk hJ => rz_iconst_ok (pc := 677) hx hb dL_law_677 rfl hk) ?_
  refine rz_All_c (i := 327) (fun k J hk hJ => rz_iadd_ok (pc := 678) hx hb dL_law_678 hk) ?_
  refine rz_All_c (i := 328) (fun k J hk hJ => rz_sld_ok (pc := 679) hx hb hX hbl hbA hn hn2 hv dL_law_679 hk) ?_
  refine rz_All_c (i := 329) (fun k J hk hJ => rz_aload_n_ok (pc := 680) hx hb dL_law_680 rfl hk) ?_
  refine rz_All_c (i := 330) (fun k J hk hJ => rz_iload_n_ok (pc := 681) hx hb dL_law_681 rfl hk) ?_
  refine rz_All_c (i := 331) (fun k J hk hJ => rz_iconst_ok (pc := 682) hx hb dL_law_682 rfl hk) ?_
  refine rz_All_c (i := 332) (fun k J hk hJ => rz_iadd_ok (pc := 683) hx hb dL_law_683 hk) ?_
  refine rz_All_c (i := 333) (fun k J hk hJ => rz_sld_ok (pc := 684) hx hb hX hbl hbA hn hn2 hv dL_law_684 hk) ?_
  refine rz_All_c (i := 334) (fun k J hk hJ => rz_callV_ok (pc := 685) (own := "ThreadJudgeLaw") (C := RX12) (T0 := TX12) (N0 := 257) (ci := 14) hC rfl (rmX12_object l hG) (lw_cw 2 htsL (lw_mL (i := 110) rfl) (lw_mL (i := 111) rfl) (lw_mL (i := 112) rfl) (lw_mL (i := 8) rfl) (lw_mL (i := 113) rfl) ⟨rfl, by decide, by decide, by decide +kernel⟩ ⟨by decide, by decide⟩) rfl dL_law_685 hk ⟨Nat.le_refl _, Nat.le_refl _⟩ lw_hf) ?_
  refine rz_All_c (i := 335) (fun k J hk hJ => rz_icmpeq_ok (pc := 688) hx hb dL_law_688 rfl hk (hJ 913)) ?_
  refine rz_All_c (i := 336) (fun k J hk hJ => rz_no_ok) ?_
  refine rz_All_c (i := 337) (fun k J hk hJ => rz_aload_n_ok (pc := 693) hx hb dL_law_693 rfl hk) ?_
  refine rz_All_c (i := 338) (fun k J hk hJ => rz_aload_n_ok (pc := 694) hx hb dL_law_694 rfl hk) ?_
  refine rz_All_c (i := 339) (fun k J hk hJ => rz_iload_n_ok (pc := 695) hx hb dL_law_695 rfl hk) ?_
  refine rz_All_c (i := 340) (fun k J hk hJ => rz_iconst_ok (pc := 696) hx hb dL_law_696 rfl hk) ?_
  refine rz_All_c (i := 341) (fun k J hk hJ => rz_iadd_ok (pc := 697) hx hb dL_law_697 hk) ?_
  refine rz_All_c (i := 342) (fun k J hk hJ => rz_sld_ok (pc := 698) hx hb hX hbl hbA hn hn2 hv dL_law_698 hk) ?_
  refine rz_All_c (i := 343) (fun k J hk hJ => rz_aload_n_ok (pc := 699) hx hb dL_law_699 rfl hk) ?_
  refine rz_All_c (i := 344) (fun k J hk hJ => rz_iload_n_ok (pc := 700) hx hb dL_law_700 rfl hk) ?_
  refine rz_All_c (i := 345) (fun k J hk hJ => rz_iconst_ok (pc := 701) hx hb dL_law_701 rfl hk) ?_
  refine rz_All_c (i := 346) (fun k J hk hJ => rz_iadd_ok (pc := 702) hx hb dL_law_702 hk) ?_
  refine rz_All_c (i := 347) (fun k J hk hJ => rz_sld_ok (pc := 703) hx hb hX hbl hbA hn hn2 hv dL_law_703 hk) ?_
  refine rz_All_c (i := 348) (fun k J hk hJ => rz_aload_n_ok (pc := 704) hx hb dL_law_704 rfl hk) ?_
  refine rz_All_c (i := 349) (fun k J hk hJ => rz_iload_n_ok (pc := 705) hx hb dL_law_705 rfl hk) ?_
  refine rz_All_c (i := 350) (fun k J hk hJ => rz_iconst_ok (pc := 706) hx hb dL_law_706 rfl hk) ?_
  refine rz_All_c (i := 351) (fun k J hk hJ => rz_iadd_ok (pc := 707) hx hb dL_law_707 hk) ?_
  refine rz_All_c (i := 352) (fun k J hk hJ => rz_sld_ok (pc := 708) hx hb hX hbl hbA hn hn2 hv dL_law_708 hk) ?_
  refine rz_All_c (i := 353) (fun k J hk hJ => rz_callV_ok (pc := 709) (own := "ThreadJudgeLaw") (C := RX11) (T0 := TX11) (N0 := 16) (ci := 13) hC rfl (rmX11_field l hG) (lw_cw 3 htsL (lw_mL (i := 114) rfl) (lw_mL (i := 115) rfl) (lw_mL (i := 116) rfl) (lw_mL (i := 3) rfl) (lw_mL (i := 117) rfl) ⟨rfl, by decide, by decide, by decide +kernel⟩ ⟨by decide, by decide⟩) rfl dL_law_709 hk ⟨Nat.le_refl _, Nat.le_refl _⟩ lw_hf) ?_
  refine rz_All_c (i := 354) (fun k J hk hJ => rz_aload_n_ok (pc := 712) hx hb dL_law_712 rfl hk) ?_
  refine rz_All_c (i := 355) (fun k J hk hJ => rz_aload_n_ok (pc := 713) hx hb dL_law_713 rfl hk) ?_
  refine rz_All_c (i := 356) (fun k J hk hJ => rz_iload_n_ok (pc := 714) hx hb dL_law_714 rfl hk) ?_
  refine rz_All_c (i := 357) (fun k J hk hJ => rz_iconst_ok (pc := 715) hx hb dL_law_715 rfl hk) ?_
  refine rz_All_c (i := 358) (fun k J hk hJ => rz_iadd_ok (pc := 716) hx hb dL_law_716 hk) ?_
  refine rz_All_c (i := 359) (fun k J hk hJ => rz_sld_ok (pc := 717) hx hb hX hbl hbA hn hn2 hv dL_law_717 hk) ?_
  refine rz_All_c (i := 360) (fun k J hk hJ => rz_aload_n_ok (pc := 718) hx hb dL_law_718 rfl hk) ?_
  refine rz_All_c (i := 361) (fun k J hk hJ => rz_iload_n_ok (pc := 719) hx hb dL_law_719 rfl hk) ?_
  refine rz_All_c (i := 362) (fun k J hk hJ => rz_iconst_ok (pc := 720) hx hb dL_law_720 rfl hk) ?_
  refine rz_All_c (i := 363) (fun k J hk hJ => rz_iadd_ok (pc := 721) hx hb dL_law_721 hk) ?_
  refine rz_All_c (i := 364) (fun k J hk hJ => rz_sld_ok (pc := 722) hx hb hX hbl hbA hn hn2 hv dL_law_722 hk) ?_
  refine rz_All_c (i := 365) (fun k J hk hJ => rz_aload_n_ok (pc := 723) hx hb dL_law_723 rfl hk) ?_
  refine rz_All_c (i := 366) (fun k J hk hJ => rz_iload_n_ok (pc := 724) hx hb dL_law_724 rfl hk) ?_
  refine rz_All_c (i := 367) (fun k J hk hJ => rz_iconst_ok (pc := 725) hx hb dL_law_725 rfl hk) ?_
  refine rz_All_c (i := 368) (fun k J hk hJ => rz_iadd_ok (pc := 726) hx hb dL_law_726 hk) ?_
  refine rz_All_c (i := 369) (fun k J hk hJ => rz_sld_ok (pc := 727) hx hb hX hbl hbA hn hn2 hv dL_law_727 hk) ?_
  refine rz_All_c (i := 370) (fun k J hk hJ => rz_callV_ok (pc := 728) (own := "ThreadJudgeLaw") (C := RX12) (T0 := TX12) (N0 := 257) (ci := 14) hC rfl (rmX12_field l hG) (lw_cw 3 htsL (lw_mL (i := 118) rfl) (lw_mL (i := 119) rfl) (lw_mL (i := 120) rfl) (lw_mL (i := 8) rfl) (lw_mL (i := 121) rfl) ⟨rfl, by decide, by decide, by decide +kernel⟩ ⟨by decide, by decide⟩) rfl dL_law_728 hk ⟨Nat.le_refl _, Nat.le_refl _⟩ lw_hf) ?_
  refine rz_All_c (i := 371) (fun k J hk hJ => rz_icmpeq_ok (pc := 731) hx hb dL_law_731 rfl hk (hJ 913)) ?_
  refine rz_All_c (i := 372) (fun k J hk hJ => rz_no_ok) ?_
  refine rz_All_c (i := 373) (fun k J hk hJ => rz_aload_n_ok (pc := 736) hx hb dL_law_736 rfl hk) ?_
  refine rz_All_c (i := 374) (fun k J hk hJ => rz_aload_n_ok (pc := 737) hx hb dL_law_737 rfl hk) ?_
  refine rz_All_c (i := 375) (fun k J hk hJ => rz_iload_n_ok (pc := 738) hx hb dL_law_738 rfl hk) ?_
  refine rz_All_c (i := 376) (fun k J hk hJ => rz_iconst_ok (pc := 739) hx hb dL_law_739 rfl hk) ?_
  refine rz_All_c (i := 377) (fun k J hk hJ => rz_iadd_ok (pc := 740) hx hb dL_law_740 hk) ?_
  refine rz_All_c (i := 378) (fun k J hk hJ => rz_sld_ok (pc := 741) hx hb hX hbl hbA hn hn2 hv dL_law_741 hk) ?_
  refine rz_All_c (i := 379) (fun k J hk hJ => rz_aload_n_ok (pc := 742) hx hb dL_law_742 rfl hk) ?_
  refine rz_All_c (i := 380) (fun k J hk hJ => rz_iload_n_ok (pc := 743) hx hb dL_law_743 rfl hk) ?_
  refine rz_All_c (i := 381) (fun k J hk hJ => rz_iconst_ok (pc := 744) hx hb dL_law_744 rfl hk) ?_
  refine rz_All_c (i := 382) (fun k J hk hJ => rz_iadd_ok (pc := 745) hx hb dL_law_745 hk) ?_
  refine rz_All_c (i := 383) (fun k J hk hJ => rz_sld_ok (pc := 746) hx hb hX hbl hbA hn hn2 hv dL_law_746 hk) ?_
  refine rz_All_c (i := 384) (fun k J hk hJ => rz_ifeqB_ok (pc := 747) hx hb dL_law_747 rfl hk (hJ 387)) ?_
  refine rz_All_c (i := 385) (fun k J hk hJ => rz_iconst_ok (pc := 750) hx hb dL_law_750 rfl hk) ?_
  refine rz_All_c (i := 386) (fun k J hk hJ => rz_goto_ok (pc := 751) hx hb dL_law_751 rfl (hJ 388)) ?_
  refine rz_All_c (i := 387) (fun k J hk hJ => rz_iconst_ok (pc := 754) hx hb dL_law_754 rfl hk) ?_
  refine rz_All_c (i := 388) (fun k J hk hJ => rz_aload_n_ok (pc := 755) hx hb dL_law_755 rfl hk) ?_
  refine rz_All_c (i := 389) (fun k J hk hJ => rz_iload_n_ok (pc := 756) hx hb dL_law_756 rfl hk) ?_
  refine rz_All_c (i := 390) (fun k J hk hJ => rz_iconst_ok (pc := 757) hx hb dL_law_757 rfl hk) ?_
  refine rz_All_c (i := 391) (fun k J hk hJ => rz_iadd_ok (pc := 758) hx hb dL_law_758 hk) ?_
  refine rz_All_c (i := 392) (fun k J hk hJ => rz_sld_ok (pc := 759) hx hb hX hbl hbA hn hn2 hv dL_law_759 hk) ?_
  refine rz_All_c (i := 393) (fun k J hk hJ => rz_callV_ok (pc := 760) (own := "ThreadJudgeLaw") (C := RX11) (T0 := TX11) (N0 := 16) (ci := 13) hC rfl (rmX11_calls l hG) (lw_cw 3 htsL (lw_mL (i := 122) rfl) (lw_mL (i := 123) rfl) (lw_mL (i := 124) rfl) (lw_mL (i := 3) rfl) (lw_mL (i := 125) rfl) ⟨rfl, by decide, by decide, by decide +kernel⟩ ⟨by decide, by decide⟩) rfl dL_law_760 hk ⟨Nat.le_refl _, Nat.le_refl _⟩ lw_hf) ?_
  refine rz_All_c (i := 394) (fun k J hk hJ => rz_aload_n_ok (pc := 763) hx hb dL_law_763 rfl hk) ?_
  refine rz_All_c (i := 395) (fun k J hk hJ => rz_aload_n_ok (pc := 764) hx hb dL_law_764 rfl hk) ?_
  refine rz_All_c (i := 396) (fun k J hk hJ => rz_iload_n_ok (pc := 765) hx hb dL_law_765 rfl hk) ?_
  refine rz_All_c (i := 397) (fun k J hk hJ => rz_iconst_ok (pc := 766) hx hb dL_law_766 rfl hk) ?_
  refine rz_All_c (i := 398) (fun k J hk hJ => rz_iadd_ok (pc := 767) hx hb dL_law_767 hk) ?_
  refine rz_All_c (i := 399) (fun k J hk hJ => rz_sld_ok (pc := 768) hx hb hX hbl hbA hn hn2 hv dL_law_768 hk) ?_
  refine rz_All_c (i := 400) (fun k J hk hJ => rz_aload_n_ok (pc := 769) hx hb dL_law_769 rfl hk) ?_
  refine rz_All_c (i := 401) (fun k J hk hJ => rz_iload_n_ok (pc := 770) hx hb dL_law_770 rfl hk) ?_
  refine rz_All_c (i := 402) (fun k J hk hJ => rz_iconst_ok (pc := 771) hx hb dL_law_771 rfl hk) ?_
  refine rz_All_c (i := 403) (fun k J hk hJ => rz_iadd_ok (pc := 772) hx hb dL_law_772 hk) ?_
  refine rz_All_c (i := 404) (fun k J hk hJ => rz_sld_ok (pc := 773) hx hb hX hbl hbA hn hn2 hv dL_law_773 hk) ?_
  refine rz_All_c (i := 405) (fun k J hk hJ => rz_ifeqB_ok (pc := 774) hx hb dL_law_774 rfl hk (hJ 408)) ?_
  refine rz_All_c (i := 406) (fun k J hk hJ => rz_iconst_ok (pc := 777) hx hb dL_law_777 rfl hk) ?_
  refine rz_All_c (i := 407) (fun k J hk hJ => rz_goto_ok (pc := 778) hx hb dL_law_778 rfl (hJ 409)) ?_
  refine rz_All_c (i := 408) (fun k J hk hJ => rz_iconst_ok (pc := 781) hx hb dL_law_781 rfl hk) ?_
  refine rz_All_c (i := 409) (fun k J hk hJ => rz_aload_n_ok (pc := 782) hx hb dL_law_782 rfl hk) ?_
  refine rz_All_c (i := 410) (fun k J hk hJ => rz_iload_n_ok (pc := 783) hx hb dL_law_783 rfl hk) ?_
  refine rz_All_c (i := 411) (fun k J hk hJ => rz_iconst_ok (pc := 784) hx hb dL_law_784 rfl hk) ?_
  refine rz_All_c (i := 412) (fun k J hk hJ => rz_iadd_ok (pc := 785) hx hb dL_law_785 hk) ?_
  refine rz_All_c (i := 413) (fun k J hk hJ => rz_sld_ok (pc := 786) hx hb hX hbl hbA hn hn2 hv dL_law_786 hk) ?_
  refine rz_All_c (i := 414) (fun k J hk hJ => rz_callV_ok (pc := 787) (own := "ThreadJudgeLaw") (C := RX12) (T0 := TX12) (N0 := 257) (ci := 14) hC rfl (rmX12_calls l hG) (lw_cw 3 htsL (lw_mL (i := 126) rfl) (lw_mL (i := 127) rfl) (lw_mL (i := 128) rfl) (lw_mL (i := 8) rfl) (lw_mL (i := 129) rfl) ⟨rfl, by decide, by decide, by decide +kernel⟩ ⟨by decide, by decide⟩) rfl dL_law_787 hk ⟨Nat.le_refl _, Nat.le_refl _⟩ lw_hf) ?_
  refine rz_All_c (i := 415) (fun k J hk hJ => rz_icmpeq_ok (pc := 790) hx hb dL_law_790 rfl hk (hJ 913)) ?_
  refine rz_All_c (i := 416) (fun k J hk hJ => rz_no_ok) ?_
  refine rz_All_c (i := 417) (fun k J hk hJ => rz_aload_n_ok (pc := 795) hx hb dL_law_795 rfl hk) ?_
  refine rz_All_c (i := 418) (fun k J hk hJ => rz_aload_n_ok (pc := 796) hx hb dL_law_796 rfl hk) ?_
  refine rz_All_c (i := 419) (fun k J hk hJ => rz_iload_n_ok (pc := 797) hx hb dL_law_797 rfl hk) ?_
  refine rz_All_c (i := 420) (fun k J hk hJ => rz_iconst_ok (pc := 798) hx hb dL_law_798 rfl hk) ?_
  refine rz_All_c (i := 421) (fun k J hk hJ => rz_iadd_ok (pc := 799) hx hb dL_law_799 hk) ?_
  refine rz_All_c (i := 422) (fun k J hk hJ => rz_sld_ok (pc := 800) hx hb hX hbl hbA hn hn2 hv dL_law_800 hk) ?_
  refine rz_All_c (i := 423) (fun k J hk hJ => rz_aload_n_ok (pc := 801) hx hb dL_law_801 rfl hk) ?_
  refine rz_All_c (i := 424) (fun k J hk hJ => rz_iload_n_ok (pc := 802) hx hb dL_law_802 rfl hk) ?_
  refine rz_All_c (i := 425) (fun k J hk hJ => rz_iconst_ok (pc := 803) hx hb dL_law_803 rfl hk) ?_
  refine rz_All_c (i := 426) (fun k J hk hJ => rz_iadd_ok (pc := 804) hx hb dL_law_804 hk) ?_
  refine rz_All_c (i := 427) (fun k J hk hJ => rz_sld_ok (pc := 805) hx hb hX hbl hbA hn hn2 hv dL_law_805 hk) ?_
  refine rz_All_c (i := 428) (fun k J hk hJ => rz_callV_ok (pc := 806) (own := "ThreadJudgeLaw") (C := RX11) (T0 := TX11) (N0 := 16) (ci := 13) hC rfl (rmX11_reached l hG) (lw_cw 2 htsL (lw_mL (i := 130) rfl) (lw_mL (i := 131) rfl) (lw_mL (i := 132) rfl) (lw_mL (i := 3) rfl) (lw_mL (i := 133) rfl) ⟨rfl, by decide, by decide, by decide +kernel⟩ ⟨by decide, by decide⟩) rfl dL_law_806 hk ⟨Nat.le_refl _, Nat.le_refl _⟩ lw_hf) ?_
  refine rz_All_c (i := 429) (fun k J hk hJ => rz_aload_n_ok (pc := 809) hx hb dL_law_809 rfl hk) ?_
  refine rz_All_c (i := 430) (fun k J hk hJ => rz_aload_n_ok (pc := 810) hx hb dL_law_810 rfl hk) ?_
  refine rz_All_c (i := 431) (fun k J hk hJ => rz_iload_n_ok (pc := 811) hx hb dL_law_811 rfl hk) ?_
  refine rz_All_c (i := 432) (fun k J hk hJ => rz_iconst_ok (pc := 812) hx hb dL_law_812 rfl hk) ?_
  refine rz_All_c (i := 433) (fun k J hk hJ => rz_iadd_ok (pc := 813) hx hb dL_law_813 hk) ?_
  refine rz_All_c (i := 434) (fun k J hk hJ => rz_sld_ok (pc := 814) hx hb hX hbl hbA hn hn2 hv dL_law_814 hk) ?_
  refine rz_All_c (i := 435) (fun k J hk hJ => rz_aload_n_ok (pc := 815) hx hb dL_law_815 rfl hk) ?_
  refine rz_All_c (i := 436) (fun k J hk hJ => rz_iload_n_ok (pc := 816) hx hb dL_law_816 rfl hk) ?_
  refine rz_All_c (i := 437) (fun k J hk hJ => rz_iconst_ok (pc := 817) hx hb dL_law_817 rfl hk) ?_
  refine rz_All_c (i := 438) (fun k J hk hJ => rz_iadd_ok (pc := 818) hx hb dL_law_818 hk) ?_
  refine rz_All_c (i := 439) (fun k J hk hJ => rz_sld_ok (pc := 819) hx hb hX hbl hbA hn hn2 hv dL_law_819 hk) ?_
  refine rz_All_c (i := 440) (fun k J hk hJ => rz_callV_ok (pc := 820) (own := "ThreadJudgeLaw") (C := RX12) (T0 := TX12) (N0 := 257) (ci := 14) hC rfl (rmX12_reached l hG) (lw_cw 2 htsL (lw_mL (i := 134) rfl) (lw_mL (i := 135) rfl) (lw_mL (i := 136) rfl) (lw_mL (i := 8) rfl) (lw_mL (i := 137) rfl) ⟨rfl, by decide, by decide, by decide +kernel⟩ ⟨by decide, by decide⟩) rfl dL_law_820 hk ⟨Nat.le_refl _, Nat.le_refl _⟩ lw_hf) ?_
  refine rz_All_c (i := 441) (fun k J hk hJ => rz_icmpeq_ok (pc := 823) hx hb dL_law_823 rfl hk (hJ 913)) ?_
  refine rz_All_c (i := 442) (fun k J hk hJ => rz_no_ok) ?_
  refine rz_All_c (i := 443) (fun k J hk hJ => rz_aload_n_ok (pc := 828) hx hb dL_law_828 rfl hk) ?_
  refine rz_All_c (i := 444) (fun k J hk hJ => rz_aload_n_ok (pc := 829) hx hb dL_law_829 rfl hk) ?_
  refine rz_All_c (i := 445) (fun k J hk hJ => rz_iload_n_ok (pc := 830) hx hb dL_law_830 rfl hk) ?_
  refine rz_All_c (i := 446) (fun k J hk hJ => rz_iconst_ok (pc := 831) hx hb dL_law_831 rfl hk) ?_
  refine rz_All_c (i := 447) (fun k J hk hJ => rz_iadd_ok (pc := 832) hx hb dL_law_832 hk) ?_
  refine rz_All_c (i := 448) (fun k J hk hJ => rz_sld_ok (pc := 833) hx hb hX hbl hbA hn hn2 hv dL_law_833 hk) ?_
  refine rz_All_c (i := 449) (fun k J hk hJ => rz_callV_ok (pc := 834) (own := "ThreadJudgeLaw") (C := RX11) (T0 := TX11) (N0 := 16) (ci := 13) hC rfl (rmX11_begins l hG) (lw_cw 1 htsL (lw_mL (i := 138) rfl) (lw_mL (i := 139) rfl) (lw_mL (i := 140) rfl) (lw_mL (i := 3) rfl) (lw_mL (i := 141) rfl) ⟨rfl, by decide, by decide, by decide +kernel⟩ ⟨by decide, by decide⟩) rfl dL_law_834 hk ⟨Nat.le_refl _, Nat.le_refl _⟩ lw_hf) ?_
  refine rz_All_c (i := 450) (fun k J hk hJ => rz_aload_n_ok (pc := 837) hx hb dL_law_837 rfl hk) ?_
  refine rz_All_c (i := 451) (fun k J hk hJ => rz_aload_n_ok (pc := 838) hx hb dL_law_838 rfl hk) ?_
  refine rz_All_c (i := 452) (fun k J hk hJ => rz_iload_n_ok (pc := 839) hx hb dL_law_839 rfl hk) ?_
  refine rz_All_c (i := 453) (fun k J hk hJ => rz_iconst_ok (pc := 840) hx hb dL_law_840 rfl hk) ?_
  refine rz_All_c (i := 454) (fun k J hk hJ => rz_iadd_ok (pc := 841) hx hb dL_law_841 hk) ?_
  refine rz_All_c (i := 455) (fun k J hk hJ => rz_sld_ok (pc := 842) hx hb hX hbl hbA hn hn2 hv dL_law_842 hk) ?_
  refine rz_All_c (i := 456) (fun k J hk hJ => rz_callV_ok (pc := 843) (own := "ThreadJudgeLaw") (C := RX12) (T0 := TX12) (N0 := 257) (ci := 14) hC rfl (rmX12_begins l hG) (lw_cw 1 htsL (lw_mL (i := 142) rfl) (lw_mL (i := 143) rfl) (lw_mL (i := 144) rfl) (lw_mL (i := 8) rfl) (lw_mL (i := 145) rfl) ⟨rfl, by decide, by decide, by decide +kernel⟩ ⟨by decide, by decide⟩) rfl dL_law_843 hk ⟨Nat.le_refl _, Nat.le_refl _⟩ lw_hf) ?_
  refine rz_All_c (i := 457) (fun k J hk hJ => rz_icmpeq_ok (pc := 846) hx hb dL_law_846 rfl hk (hJ 913)) ?_
  refine rz_All_c (i := 458) (fun k J hk hJ => rz_no_ok) ?_
  refine rz_All_c (i := 459) (fun k J hk hJ => rz_aload_n_ok (pc := 851) hx hb dL_law_851 rfl hk) ?_
  refine rz_All_c (i := 460) (fun k J hk hJ => rz_aload_n_ok (pc := 852) hx hb dL_law_852 rfl hk) ?_
  refine rz_All_c (i := 461) (fun k J hk hJ => rz_iload_n_ok (pc := 853) hx hb dL_law_853 rfl hk) ?_
  refine rz_All_c (i := 462) (fun k J hk hJ => rz_iconst_ok (pc := 854) hx hb dL_law_854 rfl hk) ?_
  refine rz_All_c (i := 463) (fun k J hk hJ => rz_iadd_ok (pc := 855) hx hb dL_law_855 hk) ?_
  refine rz_All_c (i := 464) (fun k J hk hJ => rz_sld_ok (pc := 856) hx hb hX hbl hbA hn hn2 hv dL_law_856 hk) ?_
  refine rz_All_c (i := 465) (fun k J hk hJ => rz_aload_n_ok (pc := 857) hx hb dL_law_857 rfl hk) ?_
  refine rz_All_c (i := 466) (fun k J hk hJ => rz_iload_n_ok (pc := 858) hx hb dL_law_858 rfl hk) ?_
  refine rz_All_c (i := 467) (fun k J hk hJ => rz_iconst_ok (pc := 859) hx hb dL_law_859 rfl hk) ?_
  refine rz_All_c (i := 468) (fun k J hk hJ => rz_iadd_ok (pc := 860) hx hb dL_law_860 hk) ?_
  refine rz_All_c (i := 469) (fun k J hk hJ => rz_sld_ok (pc := 861) hx hb hX hbl hbA hn hn2 hv dL_law_861 hk) ?_
  refine rz_All_c (i := 470) (fun k J hk hJ => rz_callV_ok (pc := 862) (own := "ThreadJudgeLaw") (C := RX11) (T0 := TX11) (N0 := 16) (ci := 13) hC rfl (rmX11_thread l hG) (lw_cw 2 htsL (lw_mL (i := 146) rfl) (lw_mL (i := 147) rfl) (lw_mL (i := 148) rfl) (lw_mL (i := 3) rfl) (lw_mL (i := 149) rfl) ⟨rfl, by decide, by decide, by decide +kernel⟩ ⟨by decide, by decide⟩) rfl dL_law_862 hk ⟨Nat.le_refl _, Nat.le_refl _⟩ lw_hf) ?_
  refine rz_All_c (i := 471) (fun k J hk hJ => rz_aload_n_ok (pc := 865) hx hb dL_law_865 rfl hk) ?_
  refine rz_All_c (i := 472) (fun k J hk hJ => rz_aload_n_ok (pc := 866) hx hb dL_law_866 rfl hk) ?_
  refine rz_All_c (i := 473) (fun k J hk hJ => rz_iload_n_ok (pc := 867) hx hb dL_law_867 rfl hk) ?_
  refine rz_All_c (i := 474) (fun k J hk hJ => rz_iconst_ok (pc := 868) hx hb dL_law_868 rfl hk) ?_
  refine rz_All_c (i := 475) (fun k J hk hJ => rz_iadd_ok (pc := 869) hx hb dL_law_869 hk) ?_
  refine rz_All_c (i := 476) (fun k J hk hJ => rz_sld_ok (pc := 870) hx hb hX hbl hbA hn hn2 hv dL_law_870 hk) ?_
  refine rz_All_c (i := 477) (fun k J hk hJ => rz_aload_n_ok (pc := 871) hx hb dL_law_871 rfl hk) ?_
  refine rz_All_c (i := 478) (fun k J hk hJ => rz_iload_n_ok (pc := 872) hx hb dL_law_872 rfl hk) ?_
  refine rz_All_c (i := 479) (fun k J hk hJ => rz_iconst_ok (pc := 873) hx hb dL_law_873 rfl hk) ?_
  refine rz_All_c (i := 480) (fun k J hk hJ => rz_iadd_ok (pc := 874) hx hb dL_law_874 hk) ?_
  refine rz_All_c (i := 481) (fun k J hk hJ => rz_sld_ok (pc := 875) hx hb hX hbl hbA hn hn2 hv dL_law_875 hk) ?_
  refine rz_All_c (i := 482) (fun k J hk hJ => rz_callV_ok (pc := 876) (own := "ThreadJudgeLaw") (C := RX12) (T0 := TX12) (N0 := 257) (ci := 14) hC rfl (rmX12_thread l hG) (lw_cw 2 htsL (lw_mL (i := 150) rfl) (lw_mL (i := 151) rfl) (lw_mL (i := 152) rfl) (lw_mL (i := 8) rfl) (lw_mL (i := 153) rfl) ⟨rfl, by decide, by decide, by decide +kernel⟩ ⟨by decide, by decide⟩) rfl dL_law_876 hk ⟨Nat.le_refl _, Nat.le_refl _⟩ lw_hf) ?_
  refine rz_All_c (i := 483) (fun k J hk hJ => rz_icmpeq_ok (pc := 879) hx hb dL_law_879 rfl hk (hJ 913)) ?_
  refine rz_All_c (i := 484) (fun k J hk hJ => rz_no_ok) ?_
  refine rz_All_c (i := 485) (fun k J hk hJ => rz_aload_n_ok (pc := 884) hx hb dL_law_884 rfl hk) ?_
  refine rz_All_c (i := 486) (fun k J hk hJ => rz_aload_n_ok (pc := 885) hx hb dL_law_885 rfl hk) ?_
  refine rz_All_c (i := 487) (fun k J hk hJ => rz_iload_n_ok (pc := 886) hx hb dL_law_886 rfl hk) ?_
  refine rz_All_c (i := 488) (fun k J hk hJ => rz_iconst_ok (pc := 887) hx hb dL_law_887 rfl hk) ?_
  refine rz_All_c (i := 489) (fun k J hk hJ => rz_iadd_ok (pc := 888) hx hb dL_law_888 hk) ?_
  refine rz_All_c (i := 490) (fun k J hk hJ => rz_sld_ok (pc := 889) hx hb hX hbl hbA hn hn2 hv dL_law_889 hk) ?_
  refine rz_All_c (i := 491) (fun k J hk hJ => rz_aload_n_ok (pc := 890) hx hb dL_law_890 rfl hk) ?_
  refine rz_All_c (i := 492) (fun k J hk hJ => rz_iload_n_ok (pc := 891) hx hb dL_law_891 rfl hk) ?_
  refine rz_All_c (i := 493) (fun k J hk hJ => rz_iconst_ok (pc := 892) hx hb dL_law_892 rfl hk) ?_
  refine rz_All_c (i := 494) (fun k J hk hJ => rz_iadd_ok (pc := 893) hx hb dL_law_893 hk) ?_
  refine rz_All_c (i := 495) (fun k J hk hJ => rz_sld_ok (pc := 894) hx hb hX hbl hbA hn hn2 hv dL_law_894 hk) ?_
  refine rz_All_c (i := 496) (fun k J hk hJ => rz_callV_ok (pc := 895) (own := "ThreadJudgeLaw") (C := RX11) (T0 := TX11) (N0 := 16) (ci := 13) hC rfl (rmX11_parallel l hG) (lw_cw 2 htsL (lw_mL (i := 154) rfl) (lw_mL (i := 155) rfl) (lw_mL (i := 156) rfl) (lw_mL (i := 3) rfl) (lw_mL (i := 157) rfl) ⟨rfl, by decide, by decide, by decide +kernel⟩ ⟨by decide, by decide⟩) rfl dL_law_895 hk ⟨Nat.le_refl _, Nat.le_refl _⟩ lw_hf) ?_
  refine rz_All_c (i := 497) (fun k J hk hJ => rz_aload_n_ok (pc := 898) hx hb dL_law_898 rfl hk) ?_
  refine rz_All_c (i := 498) (fun k J hk hJ => rz_aload_n_ok (pc := 899) hx hb dL_law_899 rfl hk) ?_
  refine rz_All_c (i := 499) (fun k J hk hJ => rz_iload_n_ok (pc := 900) hx hb dL_law_900 rfl hk) ?_
  refine rz_All_c (i := 500) (fun k J hk hJ => rz_iconst_ok (pc := 901) hx hb dL_law_901 rfl hk) ?_
  refine rz_All_c (i := 501) (fun k J hk hJ => rz_iadd_ok (pc := 902) hx hb dL_law_902 hk) ?_
  refine rz_All_c (i := 502) (fun k J hk hJ => rz_sld_ok (pc := 903) hx hb hX hbl hbA hn hn2 hv dL_law_903 hk) ?_
  refine rz_All_c (i := 503) (fun k J hk hJ => rz_aload_n_ok (pc := 904) hx hb dL_law_904 rfl hk) ?_
  refine rz_All_c (i := 504) (fun k J hk hJ => rz_iload_n_ok (pc := 905) hx hb dL_law_905 rfl hk) ?_
  refine rz_All_c (i := 505) (fun k J hk hJ => rz_iconst_ok (pc := 906) hx hb dL_law_906 rfl hk) ?_
  refine rz_All_c (i := 506) (fun k J hk hJ => rz_iadd_ok (pc := 907) hx hb dL_law_907 hk) ?_
  refine rz_All_c (i := 507) (fun k J hk hJ => rz_sld_ok (pc := 908) hx hb hX hbl hbA hn hn2 hv dL_law_908 hk) ?_
  refine rz_All_c (i := 508) (fun k J hk hJ => rz_callV_ok (pc := 909) (own := "ThreadJudgeLaw") (C := RX12) (T0 := TX12) (N0 := 257) (ci := 14) hC rfl (rmX12_parallel l hG) (lw_cw 2 htsL (lw_mL (i := 158) rfl) (lw_mL (i := 159) rfl) (lw_mL (i := 160) rfl) (lw_mL (i := 8) rfl) (lw_mL (i := 161) rfl) ⟨rfl, by decide, by decide, by decide +kernel⟩ ⟨by decide, by decide⟩) rfl dL_law_909 hk ⟨Nat.le_refl _, Nat.le_refl _⟩ lw_hf) ?_
  refine rz_All_c (i := 509) (fun k J hk hJ => rz_icmpeq_ok (pc := 912) hx hb dL_law_912 rfl hk (hJ 913)) ?_
  refine rz_All_c (i := 510) (fun k J hk hJ => rz_no_ok) ?_
  refine rz_All_c (i := 511) (fun k J hk hJ => rz_aload_n_ok (pc := 917) hx hb dL_law_917 rfl hk) ?_
  refine rz_All_c (i := 512) (fun k J hk hJ => rz_aload_n_ok (pc := 918) hx hb dL_law_918 rfl hk) ?_
  refine rz_All_c (i := 513) (fun k J hk hJ => rz_iload_n_ok (pc := 919) hx hb dL_law_919 rfl hk) ?_
  refine rz_All_c (i := 514) (fun k J hk hJ => rz_iconst_ok (pc := 920) hx hb dL_law_920 rfl hk) ?_
  refine rz_All_c (i := 515) (fun k J hk hJ => rz_iadd_ok (pc := 921) hx hb dL_law_921 hk) ?_
  refine rz_All_c (i := 516) (fun k J hk hJ => rz_sld_ok (pc := 922) hx hb hX hbl hbA hn hn2 hv dL_law_922 hk) ?_
  refine rz_All_c (i := 517) (fun k J hk hJ => rz_aload_n_ok (pc := 923) hx hb dL_law_923 rfl hk) ?_
  refine rz_All_c (i := 518) (fun k J hk hJ => rz_iload_n_ok (pc := 924) hx hb dL_law_924 rfl hk) ?_
  refine rz_All_c (i := 519) (fun k J hk hJ => rz_iconst_ok (pc := 925) hx hb dL_law_925 rfl hk) ?_
  refine rz_All_c (i := 520) (fun k J hk hJ => rz_iadd_ok (pc := 926) hx hb dL_law_926 hk) ?_
  refine rz_All_c (i := 521) (fun k J hk hJ => rz_sld_ok (pc := 927) hx hb hX hbl hbA hn hn2 hv dL_law_927 hk) ?_
  refine rz_All_c (i := 522) (fun k J hk hJ => rz_ifeqB_ok (pc := 928) hx hb dL_law_928 rfl hk (hJ 525)) ?_
  refine rz_All_c (i := 523) (fun k J hk hJ => rz_iconst_ok (pc := 931) hx hb dL_law_931 rfl hk) ?_
  refine rz_All_c (i := 524) (fun k J hk hJ => rz_goto_ok (pc := 932) hx hb dL_law_932 rfl (hJ 526)) ?_
  refine rz_All_c (i := 525) (fun k J hk hJ => rz_iconst_ok (pc := 935) hx hb dL_law_935 rfl hk) ?_
  refine rz_All_c (i := 526) (fun k J hk hJ => rz_aload_n_ok (pc := 936) hx hb dL_law_936 rfl hk) ?_
  refine rz_All_c (i := 527) (fun k J hk hJ => rz_iload_n_ok (pc := 937) hx hb dL_law_937 rfl hk) ?_
  refine rz_All_c (i := 528) (fun k J hk hJ => rz_iconst_ok (pc := 938) hx hb dL_law_938 rfl hk) ?_
  refine rz_All_c (i := 529) (fun k J hk hJ => rz_iadd_ok (pc := 939) hx hb dL_law_939 hk) ?_
  refine rz_All_c (i := 530) (fun k J hk hJ => rz_sld_ok (pc := 940) hx hb hX hbl hbA hn hn2 hv dL_law_940 hk) ?_
  refine rz_All_c (i := 531) (fun k J hk hJ => rz_callV_ok (pc := 941) (own := "ThreadJudgeLaw") (C := RX11) (T0 := TX11) (N0 := 16) (ci := 13) hC rfl (rmX11_held l hG) (lw_cw 3 htsL (lw_mL (i := 162) rfl) (lw_mL (i := 163) rfl) (lw_mL (i := 164) rfl) (lw_mL (i := 3) rfl) (lw_mL (i := 165) rfl) ⟨rfl, by decide, by decide, by decide +kernel⟩ ⟨by decide, by decide⟩) rfl dL_law_941 hk ⟨Nat.le_refl _, Nat.le_refl _⟩ lw_hf) ?_
  refine rz_All_c (i := 532) (fun k J hk hJ => rz_aload_n_ok (pc := 944) hx hb dL_law_944 rfl hk) ?_
  refine rz_All_c (i := 533) (fun k J hk hJ => rz_aload_n_ok (pc := 945) hx hb dL_law_945 rfl hk) ?_
  refine rz_All_c (i := 534) (fun k J hk hJ => rz_iload_n_ok (pc := 946) hx hb dL_law_946 rfl hk) ?_
  refine rz_All_c (i := 535) (fun k J hk hJ => rz_iconst_ok (pc := 947) hx hb dL_law_947 rfl hk) ?_
  refine rz_All_c (i := 536) (fun k J hk hJ => rz_iadd_ok (pc := 948) hx hb dL_law_948 hk) ?_
  refine rz_All_c (i := 537) (fun k J hk hJ => rz_sld_ok (pc := 949) hx hb hX hbl hbA hn hn2 hv dL_law_949 hk) ?_
  refine rz_All_c (i := 538) (fun k J hk hJ => rz_aload_n_ok (pc := 950) hx hb dL_law_950 rfl hk) ?_
  refine rz_All_c (i := 539) (fun k J hk hJ => rz_iload_n_ok (pc := 951) hx hb dL_law_951 rfl hk) ?_
  refine rz_All_c (i := 540) (fun k J hk hJ => rz_iconst_ok (pc := 952) hx hb dL_law_952 rfl hk) ?_
  refine rz_All_c (i := 541) (fun k J hk hJ => rz_iadd_ok (pc := 953) hx hb dL_law_953 hk) ?_
  refine rz_All_c (i := 542) (fun k J hk hJ => rz_sld_ok (pc := 954) hx hb hX hbl hbA hn hn2 hv dL_law_954 hk) ?_
  refine rz_All_c (i := 543) (fun k J hk hJ => rz_ifeqB_ok (pc := 955) hx hb dL_law_955 rfl hk (hJ 546)) ?_
  refine rz_All_c (i := 544) (fun k J hk hJ => rz_iconst_ok (pc := 958) hx hb dL_law_958 rfl hk) ?_
  refine rz_All_c (i := 545) (fun k J hk hJ => rz_goto_ok (pc := 959) hx hb dL_law_959 rfl (hJ 547)) ?_
  refine rz_All_c (i := 546) (fun k J hk hJ => rz_iconst_ok (pc := 962) hx hb dL_law_962 rfl hk) ?_
  refine rz_All_c (i := 547) (fun k J hk hJ => rz_aload_n_ok (pc := 963) hx hb dL_law_963 rfl hk) ?_
  refine rz_All_c (i := 548) (fun k J hk hJ => rz_iload_n_ok (pc := 964) hx hb dL_law_964 rfl hk) ?_
  refine rz_All_c (i := 549) (fun k J hk hJ => rz_iconst_ok (pc := 965) hx hb dL_law_965 rfl hk) ?_
  refine rz_All_c (i := 550) (fun k J hk hJ => rz_iadd_ok (pc := 966) hx hb dL_law_966 hk) ?_
  refine rz_All_c (i := 551) (fun k J hk hJ => rz_sld_ok (pc := 967) hx hb hX hbl hbA hn hn2 hv dL_law_967 hk) ?_
  refine rz_All_c (i := 552) (fun k J hk hJ => rz_callV_ok (pc := 968) (own := "ThreadJudgeLaw") (C := RX12) (T0 := TX12) (N0 := 257) (ci := 14) hC rfl (rmX12_held l hG) (lw_cw 3 htsL (lw_mL (i := 166) rfl) (lw_mL (i := 167) rfl) (lw_mL (i := 168) rfl) (lw_mL (i := 8) rfl) (lw_mL (i := 169) rfl) ⟨rfl, by decide, by decide, by decide +kernel⟩ ⟨by decide, by decide⟩) rfl dL_law_968 hk ⟨Nat.le_refl _, Nat.le_refl _⟩ lw_hf) ?_
  refine rz_All_c (i := 553) (fun k J hk hJ => rz_icmpeq_ok (pc := 971) hx hb dL_law_971 rfl hk (hJ 913)) ?_
  refine rz_All_c (i := 554) (fun k J hk hJ => rz_no_ok) ?_
  refine rz_All_c (i := 555) (fun k J hk hJ => rz_aload_n_ok (pc := 976) hx hb dL_law_976 rfl hk) ?_
  refine rz_All_c (i := 556) (fun k J hk hJ => rz_aload_n_ok (pc := 977) hx hb dL_law_977 rfl hk) ?_
  refine rz_All_c (i := 557) (fun k J hk hJ => rz_iload_n_ok (pc := 978) hx hb dL_law_978 rfl hk) ?_
  refine rz_All_c (i := 558) (fun k J hk hJ => rz_iconst_ok (pc := 979) hx hb dL_law_979 rfl hk) ?_
  refine rz_All_c (i := 559) (fun k J hk hJ => rz_iadd_ok (pc := 980) hx hb dL_law_980 hk) ?_
  refine rz_All_c (i := 560) (fun k J hk hJ => rz_sld_ok (pc := 981) hx hb hX hbl hbA hn hn2 hv dL_law_981 hk) ?_
  refine rz_All_c (i := 561) (fun k J hk hJ => rz_aload_n_ok (pc := 982) hx hb dL_law_982 rfl hk) ?_
  refine rz_All_c (i := 562) (fun k J hk hJ => rz_iload_n_ok (pc := 983) hx hb dL_law_983 rfl hk) ?_
  refine rz_All_c (i := 563) (fun k J hk hJ => rz_iconst_ok (pc := 984) hx hb dL_law_984 rfl hk) ?_
  refine rz_All_c (i := 564) (fun k J hk hJ => rz_iadd_ok (pc := 985) hx hb dL_law_985 hk) ?_
  refine rz_All_c (i := 565) (fun k J hk hJ => rz_sld_ok (pc := 986) hx hb hX hbl hbA hn hn2 hv dL_law_986 hk) ?_
  refine rz_All_c (i := 566) (fun k J hk hJ => rz_callV_ok (pc := 987) (own := "ThreadJudgeLaw") (C := RX11) (T0 := TX11) (N0 := 16) (ci := 13) hC rfl (rmX11_race l hG) (lw_cw 2 htsL (lw_mL (i := 170) rfl) (lw_mL (i := 171) rfl) (lw_mL (i := 172) rfl) (lw_mL (i := 3) rfl) (lw_mL (i := 173) rfl) ⟨rfl, by decide, by decide, by decide +kernel⟩ ⟨by decide, by decide⟩) rfl dL_law_987 hk ⟨Nat.le_refl _, Nat.le_refl _⟩ lw_hf) ?_
  refine rz_All_c (i := 567) (fun k J hk hJ => rz_aload_n_ok (pc := 990) hx hb dL_law_990 rfl hk) ?_
  refine rz_All_c (i := 568) (fun k J hk hJ => rz_aload_n_ok (pc := 991) hx hb dL_law_991 rfl hk) ?_
  refine rz_All_c (i := 569) (fun k J hk hJ => rz_iload_n_ok (pc := 992) hx hb dL_law_992 rfl hk) ?_
  refine rz_All_c (i := 570) (fun k J hk hJ => rz_iconst_ok (pc := 993) hx hb dL_law_993 rfl hk) ?_
  refine rz_All_c (i := 571) (fun k J hk hJ => rz_iadd_ok (pc := 994) hx hb dL_law_994 hk) ?_
  refine rz_All_c (i := 572) (fun k J hk hJ => rz_sld_ok (pc := 995) hx hb hX hbl hbA hn hn2 hv dL_law_995 hk) ?_
  refine rz_All_c (i := 573) (fun k J hk hJ => rz_aload_n_ok (pc := 996) hx hb dL_law_996 rfl hk) ?_
  refine rz_All_c (i := 574) (fun k J hk hJ => rz_iload_n_ok (pc := 997) hx hb dL_law_997 rfl hk) ?_
  refine rz_All_c (i := 575) (fun k J hk hJ => rz_iconst_ok (pc := 998) hx hb dL_law_998 rfl hk) ?_
  refine rz_All_c (i := 576) (fun k J hk hJ => rz_iadd_ok (pc := 999) hx hb dL_law_999 hk) ?_
  refine rz_All_c (i := 577) (fun k J hk hJ => rz_sld_ok (pc := 1000) hx hb hX hbl hbA hn hn2 hv dL_law_1000 hk) ?_
  refine rz_All_c (i := 578) (fun k J hk hJ => rz_callV_ok (pc := 1001) (own := "ThreadJudgeLaw") (C := RX12) (T0 := TX12) (N0 := 257) (ci := 14) hC rfl (rmX12_race l hG) (lw_cw 2 htsL (lw_mL (i := 174) rfl) (lw_mL (i := 175) rfl) (lw_mL (i := 176) rfl) (lw_mL (i := 8) rfl) (lw_mL (i := 177) rfl) ⟨rfl, by decide, by decide, by decide +kernel⟩ ⟨by decide, by decide⟩) rfl dL_law_1001 hk ⟨Nat.le_refl _, Nat.le_refl _⟩ lw_hf) ?_
  refine rz_All_c (i := 579) (fun k J hk hJ => rz_icmpeq_ok (pc := 1004) hx hb dL_law_1004 rfl hk (hJ 913)) ?_
  refine rz_All_c (i := 580) (fun k J hk hJ => rz_no_ok) ?_
  refine rz_All_c (i := 581) (fun k J hk hJ => rz_aload_n_ok (pc := 1009) hx hb dL_law_1009 rfl hk) ?_
  refine rz_All_c (i := 582) (fun k J hk hJ => rz_aload_n_ok (pc := 1010) hx hb dL_law_1010 rfl hk) ?_
  refine rz_All_c (i := 583) (fun k J hk hJ => rz_iload_n_ok (pc := 1011) hx hb dL_law_1011 rfl hk) ?_
  refine rz_All_c (i := 584) (fun k J hk hJ => rz_iconst_ok (pc := 1012) hx hb dL_law_1012 rfl hk) ?_
  refine rz_All_c (i := 585) (fun k J hk hJ => rz_iadd_ok (pc := 1013) hx hb dL_law_1013 hk) ?_
  refine rz_All_c (i := 586) (fun k J hk hJ => rz_sld_ok (pc := 1014) hx hb hX hbl hbA hn hn2 hv dL_law_1014 hk) ?_
  refine rz_All_c (i := 587) (fun k J hk hJ => rz_aload_n_ok (pc := 1015) hx hb dL_law_1015 rfl hk) ?_
  refine rz_All_c (i := 588) (fun k J hk hJ => rz_iload_n_ok (pc := 1016) hx hb dL_law_1016 rfl hk) ?_
  refine rz_All_c (i := 589) (fun k J hk hJ => rz_iconst_ok (pc := 1017) hx hb dL_law_1017 rfl hk) ?_
  refine rz_All_c (i := 590) (fun k J hk hJ => rz_iadd_ok (pc := 1018) hx hb dL_law_1018 hk) ?_
  refine rz_All_c (i := 591) (fun k J hk hJ => rz_sld_ok (pc := 1019) hx hb hX hbl hbA hn hn2 hv dL_law_1019 hk) ?_
  refine rz_All_c (i := 592) (fun k J hk hJ => rz_callV_ok (pc := 1020) (own := "ThreadJudgeLaw") (C := RX11) (T0 := TX11) (N0 := 16) (ci := 13) hC rfl (rmX11_knot l hG) (lw_cw 2 htsL (lw_mL (i := 178) rfl) (lw_mL (i := 179) rfl) (lw_mL (i := 180) rfl) (lw_mL (i := 3) rfl) (lw_mL (i := 181) rfl) ⟨rfl, by decide, by decide, by decide +kernel⟩ ⟨by decide, by decide⟩) rfl dL_law_1020 hk ⟨Nat.le_refl _, Nat.le_refl _⟩ lw_hf) ?_
  refine rz_All_c (i := 593) (fun k J hk hJ => rz_aload_n_ok (pc := 1023) hx hb dL_law_1023 rfl hk) ?_
  refine rz_All_c (i := 594) (fun k J hk hJ => rz_aload_n_ok (pc := 1024) hx hb dL_law_1024 rfl hk) ?_
  refine rz_All_c (i := 595) (fun k J hk hJ => rz_iload_n_ok (pc := 1025) hx hb dL_law_1025 rfl hk) ?_
  refine rz_All_c (i := 596) (fun k J hk hJ => rz_iconst_ok (pc := 1026) hx hb dL_law_1026 rfl hk) ?_
  refine rz_All_c (i := 597) (fun k J hk hJ => rz_iadd_ok (pc := 1027) hx hb dL_law_1027 hk) ?_
  refine rz_All_c (i := 598) (fun k J hk hJ => rz_sld_ok (pc := 1028) hx hb hX hbl hbA hn hn2 hv dL_law_1028 hk) ?_
  refine rz_All_c (i := 599) (fun k J hk hJ => rz_aload_n_ok (pc := 1029) hx hb dL_law_1029 rfl hk) ?_
  refine rz_All_c (i := 600) (fun k J hk hJ => rz_iload_n_ok (pc := 1030) hx hb dL_law_1030 rfl hk) ?_
  refine rz_All_c (i := 601) (fun k J hk hJ => rz_iconst_ok (pc := 1031) hx hb dL_law_1031 rfl hk) ?_
  refine rz_All_c (i := 602) (fun k J hk hJ => rz_iadd_ok (pc := 1032) hx hb dL_law_1032 hk) ?_
  refine rz_All_c (i := 603) (fun k J hk hJ => rz_sld_ok (pc := 1033) hx hb hX hbl hbA hn hn2 hv dL_law_1033 hk) ?_
  refine rz_All_c (i := 604) (fun k J hk hJ => rz_callV_ok (pc := 1034) (own := "ThreadJudgeLaw") (C := RX12) (T0 := TX12) (N0 := 257) (ci := 14) hC rfl (rmX12_knot l hG) (lw_cw 2 htsL (lw_mL (i := 182) rfl) (lw_mL (i := 183) rfl) (lw_mL (i := 184) rfl) (lw_mL (i := 8) rfl) (lw_mL (i := 185) rfl) ⟨rfl, by decide, by decide, by decide +kernel⟩ ⟨by decide, by decide⟩) rfl dL_law_1034 hk ⟨Nat.le_refl _, Nat.le_refl _⟩ lw_hf) ?_
  refine rz_All_c (i := 605) (fun k J hk hJ => rz_icmpeq_ok (pc := 1037) hx hb dL_law_1037 rfl hk (hJ 913)) ?_
  refine rz_All_c (i := 606) (fun k J hk hJ => rz_no_ok) ?_
  refine rz_All_c (i := 607) (fun k J hk hJ => rz_aload_n_ok (pc := 1042) hx hb dL_law_1042 rfl hk) ?_
  refine rz_All_c (i := 608) (fun k J hk hJ => rz_aload_n_ok (pc := 1043) hx hb dL_law_1043 rfl hk) ?_
  refine rz_All_c (i := 609) (fun k J hk hJ => rz_iload_n_ok (pc := 1044) hx hb dL_law_1044 rfl hk) ?_
  refine rz_All_c (i := 610) (fun k J hk hJ => rz_iconst_ok (pc := 1045) hx hb dL_law_1045 rfl hk) ?_
  refine rz_All_c (i := 611) (fun k J hk hJ => rz_iadd_ok (pc := 1046) hx hb dL_law_1046 hk) ?_
  refine rz_All_c (i := 612) (fun k J hk hJ => rz_sld_ok (pc := 1047) hx hb hX hbl hbA hn hn2 hv dL_law_1047 hk) ?_
  refine rz_All_c (i := 613) (fun k J hk hJ => rz_aload_n_ok (pc := 1048) hx hb dL_law_1048 rfl hk) ?_
  refine rz_All_c (i := 614) (fun k J hk hJ => rz_iload_n_ok (pc := 1049) hx hb dL_law_1049 rfl hk) ?_
  refine rz_All_c (i := 615) (fun k J hk hJ => rz_iconst_ok (pc := 1050) hx hb dL_law_1050 rfl hk) ?_
  refine rz_All_c (i := 616) (fun k J hk hJ => rz_iadd_ok (pc := 1051) hx hb dL_law_1051 hk) ?_
  refine rz_All_c (i := 617) (fun k J hk hJ => rz_sld_ok (pc := 1052) hx hb hX hbl hbA hn hn2 hv dL_law_1052 hk) ?_
  refine rz_All_c (i := 618) (fun k J hk hJ => rz_callV_ok (pc := 1053) (own := "ThreadJudgeLaw") (C := RX11) (T0 := TX11) (N0 := 16) (ci := 13) hC rfl (rmX11_waits l hG) (lw_cw 2 htsL (lw_mL (i := 186) rfl) (lw_mL (i := 187) rfl) (lw_mL (i := 188) rfl) (lw_mL (i := 3) rfl) (lw_mL (i := 189) rfl) ⟨rfl, by decide, by decide, by decide +kernel⟩ ⟨by decide, by decide⟩) rfl dL_law_1053 hk ⟨Nat.le_refl _, Nat.le_refl _⟩ lw_hf) ?_
  refine rz_All_c (i := 619) (fun k J hk hJ => rz_aload_n_ok (pc := 1056) hx hb dL_law_1056 rfl hk) ?_
  refine rz_All_c (i := 620) (fun k J hk hJ => rz_aload_n_ok (pc := 1057) hx hb dL_law_1057 rfl hk) ?_
  refine rz_All_c (i := 621) (fun k J hk hJ => rz_iload_n_ok (pc := 1058) hx hb dL_law_1058 rfl hk) ?_
  refine rz_All_c (i := 622) (fun k J hk hJ => rz_iconst_ok (pc := 1059) hx hb dL_law_1059 rfl hk) ?_
  refine rz_All_c (i := 623) (fun k J hk hJ => rz_iadd_ok (pc := 1060) hx hb dL_law_1060 hk) ?_
  refine rz_All_c (i := 624) (fun k J hk hJ => rz_sld_ok (pc := 1061) hx hb hX hbl hbA hn hn2 hv dL_law_1061 hk) ?_
  refine rz_All_c (i := 625) (fun k J hk hJ => rz_aload_n_ok (pc := 1062) hx hb dL_law_1062 rfl hk) ?_
  refine rz_All_c (i := 626) (fun k J hk hJ => rz_iload_n_ok (pc := 1063) hx hb dL_law_1063 rfl hk) ?_
  refine rz_All_c (i := 627) (fun k J hk hJ => rz_iconst_ok (pc := 1064) hx hb dL_law_1064 rfl hk) ?_
  refine rz_All_c (i := 628) (fun k J hk hJ => rz_iadd_ok (pc := 1065) hx hb dL_law_1065 hk) ?_
  refine rz_All_c (i := 629) (fun k J hk hJ => rz_sld_ok (pc := 1066) hx hb hX hbl hbA hn hn2 hv dL_law_1066 hk) ?_
  refine rz_All_c (i := 630) (fun k J hk hJ => rz_callV_ok (pc := 1067) (own := "ThreadJudgeLaw") (C := RX12) (T0 := TX12) (N0 := 257) (ci := 14) hC rfl (rmX12_waits l hG) (lw_cw 2 htsL (lw_mL (i := 190) rfl) (lw_mL (i := 191) rfl) (lw_mL (i := 192) rfl) (lw_mL (i := 8) rfl) (lw_mL (i := 193) rfl) ⟨rfl, by decide, by decide, by decide +kernel⟩ ⟨by decide, by decide⟩) rfl dL_law_1067 hk ⟨Nat.le_refl _, Nat.le_refl _⟩ lw_hf) ?_
  refine rz_All_c (i := 631) (fun k J hk hJ => rz_icmpeq_ok (pc := 1070) hx hb dL_law_1070 rfl hk (hJ 913)) ?_
  refine rz_All_c (i := 632) (fun k J hk hJ => rz_no_ok) ?_
  refine rz_All_c (i := 633) (fun k J hk hJ => rz_aload_n_ok (pc := 1075) hx hb dL_law_1075 rfl hk) ?_
  refine rz_All_c (i := 634) (fun k J hk hJ => rz_aload_n_ok (pc := 1076) hx hb dL_law_1076 rfl hk) ?_
  refine rz_All_c (i := 635) (fun k J hk hJ => rz_iload_n_ok (pc := 1077) hx hb dL_law_1077 rfl hk) ?_
  refine rz_All_c (i := 636) (fun k J hk hJ => rz_iconst_ok (pc := 1078) hx hb dL_law_1078 rfl hk) ?_
  refine rz_All_c (i := 637) (fun k J hk hJ => rz_iadd_ok (pc := 1079) hx hb dL_law_1079 hk) ?_
  refine rz_All_c (i := 638) (fun k J hk hJ => rz_sld_ok (pc := 1080) hx hb hX hbl hbA hn hn2 hv dL_law_1080 hk) ?_
  refine rz_All_c (i := 639) (fun k J hk hJ => rz_callV_ok (pc := 1081) (own := "ThreadJudgeLaw") (C := RX11) (T0 := TX11) (N0 := 16) (ci := 13) hC rfl (rmX11_unresolved l hG) (lw_cw 1 htsL (lw_mL (i := 194) rfl) (lw_mL (i := 195) rfl) (lw_mL (i := 196) rfl) (lw_mL (i := 3) rfl) (lw_mL (i := 197) rfl) ⟨rfl, by decide, by decide, by decide +kernel⟩ ⟨by decide, by decide⟩) rfl dL_law_1081 hk ⟨Nat.le_refl _, Nat.le_refl _⟩ lw_hf) ?_
  refine rz_All_c (i := 640) (fun k J hk hJ => rz_aload_n_ok (pc := 1084) hx hb dL_law_1084 rfl hk) ?_
  refine rz_All_c (i := 641) (fun k J hk hJ => rz_aload_n_ok (pc := 1085) hx hb dL_law_1085 rfl hk) ?_
  refine rz_All_c (i := 642) (fun k J hk hJ => rz_iload_n_ok (pc := 1086) hx hb dL_law_1086 rfl hk) ?_
  refine rz_All_c (i := 643) (fun k J hk hJ => rz_iconst_ok (pc := 1087) hx hb dL_law_1087 rfl hk) ?_
  refine rz_All_c (i := 644) (fun k J hk hJ => rz_iadd_ok (pc := 1088) hx hb dL_law_1088 hk) ?_
  refine rz_All_c (i := 645) (fun k J hk hJ => rz_sld_ok (pc := 1089) hx hb hX hbl hbA hn hn2 hv dL_law_1089 hk) ?_
  refine rz_All_c (i := 646) (fun k J hk hJ => rz_callV_ok (pc := 1090) (own := "ThreadJudgeLaw") (C := RX12) (T0 := TX12) (N0 := 257) (ci := 14) hC rfl (rmX12_unresolved l hG) (lw_cw 1 htsL (lw_mL (i := 198) rfl) (lw_mL (i := 199) rfl) (lw_mL (i := 200) rfl) (lw_mL (i := 8) rfl) (lw_mL (i := 201) rfl) ⟨rfl, by decide, by decide, by decide +kernel⟩ ⟨by decide, by decide⟩) rfl dL_law_1090 hk ⟨Nat.le_refl _, Nat.le_refl _⟩ lw_hf) ?_
  refine rz_All_c (i := 647) (fun k J hk hJ => rz_icmpeq_ok (pc := 1093) hx hb dL_law_1093 rfl hk (hJ 913)) ?_
  refine rz_All_c (i := 648) (fun k J hk hJ => rz_no_ok) ?_
  refine rz_All_c (i := 649) (fun k J hk hJ => rz_aload_n_ok (pc := 1098) hx hb dL_law_1098 rfl hk) ?_
  refine rz_All_c (i := 650) (fun k J hk hJ => rz_aload_n_ok (pc := 1099) hx hb dL_law_1099 rfl hk) ?_
  refine rz_All_c (i := 651) (fun k J hk hJ => rz_iload_n_ok (pc := 1100) hx hb dL_law_1100 rfl hk) ?_
  refine rz_All_c (i := 652) (fun k J hk hJ => rz_iconst_ok (pc := 1101) hx hb dL_law_1101 rfl hk) ?_
  refine rz_All_c (i := 653) (fun k J hk hJ => rz_iadd_ok (pc := 1102) hx hb dL_law_1102 hk) ?_
  refine rz_All_c (i := 654) (fun k J hk hJ => rz_sld_ok (pc := 1103) hx hb hX hbl hbA hn hn2 hv dL_law_1103 hk) ?_
  refine rz_All_c (i := 655) (fun k J hk hJ => rz_aload_n_ok (pc := 1104) hx hb dL_law_1104 rfl hk) ?_
  refine rz_All_c (i := 656) (fun k J hk hJ => rz_iload_n_ok (pc := 1105) hx hb dL_law_1105 rfl hk) ?_
  refine rz_All_c (i := 657) (fun k J hk hJ => rz_iconst_ok (pc := 1106) hx hb dL_law_1106 rfl hk) ?_
  refine rz_All_c (i := 658) (fun k J hk hJ => rz_iadd_ok (pc := 1107) hx hb dL_law_1107 hk) ?_
  refine rz_All_c (i := 659) (fun k J hk hJ => rz_sld_ok (pc := 1108) hx hb hX hbl hbA hn hn2 hv dL_law_1108 hk) ?_
  refine rz_All_c (i := 660) (fun k J hk hJ => rz_callV_ok (pc := 1109) (own := "ThreadJudgeLaw") (C := RX11) (T0 := TX11) (N0 := 16) (ci := 13) hC rfl (rmX11_way l hG) (lw_cw 2 htsL (lw_mL (i := 202) rfl) (lw_mL (i := 203) rfl) (lw_mL (i := 204) rfl) (lw_mL (i := 3) rfl) (lw_mL (i := 205) rfl) ⟨rfl, by decide, by decide, by decide +kernel⟩ ⟨by decide, by decide⟩) rfl dL_law_1109 hk ⟨Nat.le_refl _, Nat.le_refl _⟩ lw_hf) ?_
  refine rz_All_c (i := 661) (fun k J hk hJ => rz_aload_n_ok (pc := 1112) hx hb dL_law_1112 rfl hk) ?_
  refine rz_All_c (i := 662) (fun k J hk hJ => rz_aload_n_ok (pc := 1113) hx hb dL_law_1113 rfl hk) ?_
  refine rz_All_c (i := 663) (fun k J hk hJ => rz_iload_n_ok (pc := 1114) hx hb dL_law_1114 rfl hk) ?_
  refine rz_All_c (i := 664) (fun k J hk hJ => rz_iconst_ok (pc := 1115) hx hb dL_law_1115 rfl hk) ?_
  refine rz_All_c (i := 665) (fun k J hk hJ => rz_iadd_ok (pc := 1116) hx hb dL_law_1116 hk) ?_
  refine rz_All_c (i := 666) (fun k J hk hJ => rz_sld_ok (pc := 1117) hx hb hX hbl hbA hn hn2 hv dL_law_1117 hk) ?_
  refine rz_All_c (i := 667) (fun k J hk hJ => rz_aload_n_ok (pc := 1118) hx hb dL_law_1118 rfl hk) ?_
  refine rz_All_c (i := 668) (fun k J hk hJ => rz_iload_n_ok (pc := 1119) hx hb dL_law_1119 rfl hk) ?_
  refine rz_All_c (i := 669) (fun k J hk hJ => rz_iconst_ok (pc := 1120) hx hb dL_law_1120 rfl hk) ?_
  refine rz_All_c (i := 670) (fun k J hk hJ => rz_iadd_ok (pc := 1121) hx hb dL_law_1121 hk) ?_
  refine rz_All_c (i := 671) (fun k J hk hJ => rz_sld_ok (pc := 1122) hx hb hX hbl hbA hn hn2 hv dL_law_1122 hk) ?_
  refine rz_All_c (i := 672) (fun k J hk hJ => rz_callV_ok (pc := 1123) (own := "ThreadJudgeLaw") (C := RX12) (T0 := TX12) (N0 := 257) (ci := 14) hC rfl (rmX12_way l hG) (lw_cw 2 htsL (lw_mL (i := 206) rfl) (lw_mL (i := 207) rfl) (lw_mL (i := 208) rfl) (lw_mL (i := 8) rfl) (lw_mL (i := 209) rfl) ⟨rfl, by decide, by decide, by decide +kernel⟩ ⟨by decide, by decide⟩) rfl dL_law_1123 hk ⟨Nat.le_refl _, Nat.le_refl _⟩ lw_hf) ?_
  refine rz_All_c (i := 673) (fun k J hk hJ => rz_icmpeq_ok (pc := 1126) hx hb dL_law_1126 rfl hk (hJ 913)) ?_
  refine rz_All_c (i := 674) (fun k J hk hJ => rz_no_ok) ?_
  refine rz_All_c (i := 675) (fun k J hk hJ => rz_aload_n_ok (pc := 1131) hx hb dL_law_1131 rfl hk) ?_
  refine rz_All_c (i := 676) (fun k J hk hJ => rz_aload_n_ok (pc := 1132) hx hb dL_law_1132 rfl hk) ?_
  refine rz_All_c (i := 677) (fun k J hk hJ => rz_iload_n_ok (pc := 1133) hx hb dL_law_1133 rfl hk) ?_
  refine rz_All_c (i := 678) (fun k J hk hJ => rz_iconst_ok (pc := 1134) hx hb dL_law_1134 rfl hk) ?_
  refine rz_All_c (i := 679) (fun k J hk hJ => rz_iadd_ok (pc := 1135) hx hb dL_law_1135 hk) ?_
  refine rz_All_c (i := 680) (fun k J hk hJ => rz_sld_ok (pc := 1136) hx hb hX hbl hbA hn hn2 hv dL_law_1136 hk) ?_
  refine rz_All_c (i := 681) (fun k J hk hJ => rz_callV_ok (pc := 1137) (own := "ThreadJudgeLaw") (C := RX11) (T0 := TX11) (N0 := 16) (ci := 13) hC rfl (rmX11_ask l hG) (lw_cw 1 htsL (lw_mL (i := 210) rfl) (lw_mL (i := 211) rfl) (lw_mL (i := 212) rfl) (lw_mL (i := 3) rfl) (lw_mL (i := 213) rfl) ⟨rfl, by decide, by decide, by decide +kernel⟩ ⟨by decide, by decide⟩) rfl dL_law_1137 hk ⟨Nat.le_refl _, Nat.le_refl _⟩ lw_hf) ?_
  refine rz_All_c (i := 682) (fun k J hk hJ => rz_aload_n_ok (pc := 1140) hx hb dL_law_1140 rfl hk) ?_
  refine rz_All_c (i := 683) (fun k J hk hJ => rz_aload_n_ok (pc := 1141) hx hb dL_law_1141 rfl hk) ?_
  refine rz_All_c (i := 684) (fun k J hk hJ => rz_iload_n_ok (pc := 1142) hx hb dL_law_1142 rfl hk) ?_
  refine rz_All_c (i := 685) (fun k J hk hJ => rz_iconst_ok (pc := 1143) hx hb dL_law_1143 rfl hk) ?_
  refine rz_All_c (i := 686) (fun k J hk hJ => rz_iadd_ok (pc := 1144) hx hb dL_law_1144 hk) ?_
  refine rz_All_c (i := 687) (fun k J hk hJ => rz_sld_ok (pc := 1145) hx hb hX hbl hbA hn hn2 hv dL_law_1145 hk) ?_
  refine rz_All_c (i := 688) (fun k J hk hJ => rz_callV_ok (pc := 1146) (own := "ThreadJudgeLaw") (C := RX12) (T0 := TX12) (N0 := 257) (ci := 14) hC rfl (rmX12_ask l hG) (lw_cw 1 htsL (lw_mL (i := 214) rfl) (lw_mL (i := 215) rfl) (lw_mL (i := 216) rfl) (lw_mL (i := 8) rfl) (lw_mL (i := 217) rfl) ⟨rfl, by decide, by decide, by decide +kernel⟩ ⟨by decide, by decide⟩) rfl dL_law_1146 hk ⟨Nat.le_refl _, Nat.le_refl _⟩ lw_hf) ?_
  refine rz_All_c (i := 689) (fun k J hk hJ => rz_icmpeq_ok (pc := 1149) hx hb dL_law_1149 rfl hk (hJ 913)) ?_
  refine rz_All_c (i := 690) (fun k J hk hJ => rz_no_ok) ?_
  refine rz_All_c (i := 691) (fun k J hk hJ => rz_aload_n_ok (pc := 1154) hx hb dL_law_1154 rfl hk) ?_
  refine rz_All_c (i := 692) (fun k J hk hJ => rz_callV_ok (pc := 1155) (own := "ThreadJudgeLaw") (C := RX11) (T0 := TX11) (N0 := 16) (ci := 13) hC rfl (rmX11_answer l hG) (lw_cw 0 htsL (lw_mL (i := 218) rfl) (lw_mL (i := 219) rfl) (lw_mL (i := 220) rfl) (lw_mL (i := 3) rfl) (lw_mL (i := 221) rfl) ⟨rfl, by decide, by decide, by decide +kernel⟩ ⟨by decide, by decide⟩) rfl dL_law_1155 hk ⟨Nat.le_refl _, Nat.le_refl _⟩ lw_hf) ?_
  refine rz_All_c (i := 693) (fun k J hk hJ => rz_aload_n_ok (pc := 1158) hx hb dL_law_1158 rfl hk) ?_
  refine rz_All_c (i := 694) (fun k J hk hJ => rz_callV_ok (pc := 1159) (own := "ThreadJudgeLaw") (C := RX12) (T0 := TX12) (N0 := 257) (ci := 14) hC rfl (rmX12_answer l hG) (lw_cw 0 htsL (lw_mL (i := 222) rfl) (lw_mL (i := 223) rfl) (lw_mL (i := 224) rfl) (lw_mL (i := 8) rfl) (lw_mL (i := 225) rfl) ⟨rfl, by decide, by decide, by decide +kernel⟩ ⟨by decide, by decide⟩) rfl dL_law_1159 hk ⟨Nat.le_refl _, Nat.le_refl _⟩ lw_hf) ?_
  refine rz_All_c (i := 695) (fun k J hk hJ => rz_icmpeq_ok (pc := 1162) hx hb dL_law_1162 rfl hk (hJ 913)) ?_
  refine rz_All_c (i := 696) (fun k J hk hJ => rz_no_ok) ?_
  refine rz_All_c (i := 697) (fun k J hk hJ => rz_aload_n_ok (pc := 1167) hx hb dL_law_1167 rfl hk) ?_
  refine rz_All_c (i := 698) (fun k J hk hJ => rz_aload_n_ok (pc := 1168) hx hb dL_law_1168 rfl hk) ?_
  refine rz_All_c (i := 699) (fun k J hk hJ => rz_iload_n_ok (pc := 1169) hx hb dL_law_1169 rfl hk) ?_
  refine rz_All_c (i := 700) (fun k J hk hJ => rz_iconst_ok (pc := 1170) hx hb dL_law_1170 rfl hk) ?_
  refine rz_All_c (i := 701) (fun k J hk hJ => rz_iadd_ok (pc := 1171) hx hb dL_law_1171 hk) ?_
  refine rz_All_c (i := 702) (fun k J hk hJ => rz_sld_ok (pc := 1172) hx hb hX hbl hbA hn hn2 hv dL_law_1172 hk) ?_
  refine rz_All_c (i := 703) (fun k J hk hJ => rz_callV_ok (pc := 1173) (own := "ThreadJudgeLaw") (C := RX11) (T0 := TX11) (N0 := 16) (ci := 13) hC rfl (rmX11_answered l hG) (lw_cw 1 htsL (lw_mL (i := 226) rfl) (lw_mL (i := 227) rfl) (lw_mL (i := 228) rfl) (lw_mL (i := 3) rfl) (lw_mL (i := 229) rfl) ⟨rfl, by decide, by decide, by decide +kernel⟩ ⟨by decide, by decide⟩) rfl dL_law_1173 hk ⟨Nat.le_refl _, Nat.le_refl _⟩ lw_hf) ?_
  refine rz_All_c (i := 704) (fun k J hk hJ => rz_aload_n_ok (pc := 1176) hx hb dL_law_1176 rfl hk) ?_
  refine rz_All_c (i := 705) (fun k J hk hJ => rz_aload_n_ok (pc := 1177) hx hb dL_law_1177 rfl hk) ?_
  refine rz_All_c (i := 706) (fun k J hk hJ => rz_iload_n_ok (pc := 1178) hx hb dL_law_1178 rfl hk) ?_
  refine rz_All_c (i := 707) (fun k J hk hJ => rz_iconst_ok (pc := 1179) hx hb dL_law_1179 rfl hk) ?_
  refine rz_All_c (i := 708) (fun k J hk hJ => rz_iadd_ok (pc := 1180) hx hb dL_law_1180 hk) ?_
  refine rz_All_c (i := 709) (fun k J hk hJ => rz_sld_ok (pc := 1181) hx hb hX hbl hbA hn hn2 hv dL_law_1181 hk) ?_
  refine rz_All_c (i := 710) (fun k J hk hJ => rz_callV_ok (pc := 1182) (own := "ThreadJudgeLaw") (C := RX12) (T0 := TX12) (N0 := 257) (ci := 14) hC rfl (rmX12_answered l hG) (lw_cw 1 htsL (lw_mL (i := 230) rfl) (lw_mL (i := 231) rfl) (lw_mL (i := 232) rfl) (lw_mL (i := 8) rfl) (lw_mL (i := 233) rfl) ⟨rfl, by decide, by decide, by decide +kernel⟩ ⟨by decide, by decide⟩) rfl dL_law_1182 hk ⟨Nat.le_refl _, Nat.le_refl _⟩ lw_hf) ?_
  refine rz_All_c (i := 711) (fun k J hk hJ => rz_icmpeq_ok (pc := 1185) hx hb dL_law_1185 rfl hk (hJ 913)) ?_
  refine rz_All_c (i := 712) (fun k J hk hJ => rz_no_ok) ?_
  refine rz_All_c (i := 713) (fun k J hk hJ => rz_aload_n_ok (pc := 1190) hx hb dL_law_1190 rfl hk) ?_
  refine rz_All_c (i := 714) (fun k J hk hJ => rz_callV_ok (pc := 1191) (own := "ThreadJudgeLaw") (C := RX11) (T0 := TX11) (N0 := 16) (ci := 13) hC rfl (rmX11_begin l hG) (lw_cw 0 htsL (lw_mL (i := 234) rfl) (lw_mL (i := 235) rfl) (lw_mL (i := 236) rfl) (lw_mL (i := 3) rfl) (lw_mL (i := 237) rfl) ⟨rfl, by decide, by decide, by decide +kernel⟩ ⟨by decide, by decide⟩) rfl dL_law_1191 hk ⟨Nat.le_refl _, Nat.le_refl _⟩ lw_hf) ?_
  refine rz_All_c (i := 715) (fun k J hk hJ => rz_aload_n_ok (pc := 1194) hx hb dL_law_1194 rfl hk) ?_
  refine rz_All_c (i := 716) (fun k J hk hJ => rz_callV_ok (pc := 1195) (own := "ThreadJudgeLaw") (C := RX12) (T0 := TX12) (N0 := 257) (ci := 14) hC rfl (rmX12_begin l hG) (lw_cw 0 htsL (lw_mL (i := 238) rfl) (lw_mL (i := 239) rfl) (lw_mL (i := 240) rfl) (lw_mL (i := 8) rfl) (lw_mL (i := 241) rfl) ⟨rfl, by decide, by decide, by decide +kernel⟩ ⟨by decide, by decide⟩) rfl dL_law_1195 hk ⟨Nat.le_refl _, Nat.le_refl _⟩ lw_hf) ?_
  refine rz_All_c (i := 717) (fun k J hk hJ => rz_icmpeq_ok (pc := 1198) hx hb dL_law_1198 rfl hk (hJ 913)) ?_
  refine rz_All_c (i := 718) (fun k J hk hJ => rz_no_ok) ?_
  refine rz_All_c (i := 719) (fun k J hk hJ => rz_aload_n_ok (pc := 1203) hx hb dL_law_1203 rfl hk) ?_
  refine rz_All_c (i := 720) (fun k J hk hJ => rz_aload_n_ok (pc := 1204) hx hb dL_law_1204 rfl hk) ?_
  refine rz_All_c (i := 721) (fun k J hk hJ => rz_iload_n_ok (pc := 1205) hx hb dL_law_1205 rfl hk) ?_
  refine rz_All_c (i := 722) (fun k J hk hJ => rz_iconst_ok (pc := 1206) hx hb dL_law_1206 rfl hk) ?_
  refine rz_All_c (i := 723) (fun k J hk hJ => rz_iadd_ok (pc := 1207) hx hb dL_law_1207 hk) ?_
  refine rz_All_c (i := 724) (fun k J hk hJ => rz_sld_ok (pc := 1208) hx hb hX hbl hbA hn hn2 hv dL_law_1208 hk) ?_
  refine rz_All_c (i := 725) (fun k J hk hJ => rz_callV_ok (pc := 1209) (own := "ThreadJudgeLaw") (C := RX11) (T0 := TX11) (N0 := 16) (ci := 13) hC rfl (rmX11_step l hG) (lw_cw 1 htsL (lw_mL (i := 242) rfl) (lw_mL (i := 243) rfl) (lw_mL (i := 244) rfl) (lw_mL (i := 3) rfl) (lw_mL (i := 245) rfl) ⟨rfl, by decide, by decide, by decide +kernel⟩ ⟨by decide, by decide⟩) rfl dL_law_1209 hk ⟨Nat.le_refl _, Nat.le_refl _⟩ lw_hf) ?_
  refine rz_All_c (i := 726) (fun k J hk hJ => rz_aload_n_ok (pc := 1212) hx hb dL_law_1212 rfl hk) ?_
  refine rz_All_c (i := 727) (fun k J hk hJ => rz_aload_n_ok (pc := 1213) hx hb dL_law_1213 rfl hk) ?_
  refine rz_All_c (i := 728) (fun k J hk hJ => rz_iload_n_ok (pc := 1214) hx hb dL_law_1214 rfl hk) ?_
  refine rz_All_c (i := 729) (fun k J hk hJ => rz_iconst_ok (pc := 1215) hx hb dL_law_1215 rfl hk) ?_
  refine rz_All_c (i := 730) (fun k J hk hJ => rz_iadd_ok (pc := 1216) hx hb dL_law_1216 hk) ?_
  refine rz_All_c (i := 731) (fun k J hk hJ => rz_sld_ok (pc := 1217) hx hb hX hbl hbA hn hn2 hv dL_law_1217 hk) ?_
  refine rz_All_c (i := 732) (fun k J hk hJ => rz_callV_ok (pc := 1218) (own := "ThreadJudgeLaw") (C := RX12) (T0 := TX12) (N0 := 257) (ci := 14) hC rfl (rmX12_step l hG) (lw_cw 1 htsL (lw_mL (i := 246) rfl) (lw_mL (i := 247) rfl) (lw_mL (i := 248) rfl) (lw_mL (i := 8) rfl) (lw_mL (i := 249) rfl) ⟨rfl, by decide, by decide, by decide +kernel⟩ ⟨by decide, by decide⟩) rfl dL_law_1218 hk ⟨Nat.le_refl _, Nat.le_refl _⟩ lw_hf) ?_
  refine rz_All_c (i := 733) (fun k J hk hJ => rz_icmpeq_ok (pc := 1221) hx hb dL_law_1221 rfl hk (hJ 913)) ?_
  refine rz_All_c (i := 734) (fun k J hk hJ => rz_no_ok) ?_
  refine rz_All_c (i := 735) (fun k J hk hJ => rz_aload_n_ok (pc := 1226) hx hb dL_law_1226 rfl hk) ?_
  refine rz_All_c (i := 736) (fun k J hk hJ => rz_aload_n_ok (pc := 1227) hx hb dL_law_1227 rfl hk) ?_
  refine rz_All_c (i := 737) (fun k J hk hJ => rz_iload_n_ok (pc := 1228) hx hb dL_law_1228 rfl hk) ?_
  refine rz_All_c (i := 738) (fun k J hk hJ => rz_iconst_ok (pc := 1229) hx hb dL_law_1229 rfl hk) ?_
  refine rz_All_c (i := 739) (fun k J hk hJ => rz_iadd_ok (pc := 1230) hx hb dL_law_1230 hk) ?_
  refine rz_All_c (i := 740) (fun k J hk hJ => rz_sld_ok (pc := 1231) hx hb hX hbl hbA hn hn2 hv dL_law_1231 hk) ?_
  refine rz_All_c (i := 741) (fun k J hk hJ => rz_aload_n_ok (pc := 1232) hx hb dL_law_1232 rfl hk) ?_
  refine rz_All_c (i := 742) (fun k J hk hJ => rz_iload_n_ok (pc := 1233) hx hb dL_law_1233 rfl hk) ?_
  refine rz_All_c (i := 743) (fun k J hk hJ => rz_iconst_ok (pc := 1234) hx hb dL_law_1234 rfl hk) ?_
  refine rz_All_c (i := 744) (fun k J hk hJ => rz_iadd_ok (pc := 1235) hx hb dL_law_1235 hk) ?_
  refine rz_All_c (i := 745) (fun k J hk hJ => rz_sld_ok (pc := 1236) hx hb hX hbl hbA hn hn2 hv dL_law_1236 hk) ?_
  refine rz_All_c (i := 746) (fun k J hk hJ => rz_callV_ok (pc := 1237) (own := "ThreadJudgeLaw") (C := RX11) (T0 := TX11) (N0 := 16) (ci := 13) hC rfl (rmX11_run l hG) (lw_cw 2 htsL (lw_mL (i := 250) rfl) (lw_mL (i := 251) rfl) (lw_mL (i := 252) rfl) (lw_mL (i := 3) rfl) (lw_mL (i := 253) rfl) ⟨rfl, by decide, by decide, by decide +kernel⟩ ⟨by decide, by decide⟩) rfl dL_law_1237 hk ⟨Nat.le_refl _, Nat.le_refl _⟩ lw_hf) ?_
  refine rz_All_c (i := 747) (fun k J hk hJ => rz_aload_n_ok (pc := 1240) hx hb dL_law_1240 rfl hk) ?_
  refine rz_All_c (i := 748) (fun k J hk hJ => rz_aload_n_ok (pc := 1241) hx hb dL_law_1241 rfl hk) ?_
  refine rz_All_c (i := 749) (fun k J hk hJ => rz_iload_n_ok (pc := 1242) hx hb dL_law_1242 rfl hk) ?_
  refine rz_All_c (i := 750) (fun k J hk hJ => rz_iconst_ok (pc := 1243) hx hb dL_law_1243 rfl hk) ?_
  refine rz_All_c (i := 751) (fun k J hk hJ => rz_iadd_ok (pc := 1244) hx hb dL_law_1244 hk) ?_
  refine rz_All_c (i := 752) (fun k J hk hJ => rz_sld_ok (pc := 1245) hx hb hX hbl hbA hn hn2 hv dL_law_1245 hk) ?_
  refine rz_All_c (i := 753) (fun k J hk hJ => rz_aload_n_ok (pc := 1246) hx hb dL_law_1246 rfl hk) ?_
  refine rz_All_c (i := 754) (fun k J hk hJ => rz_iload_n_ok (pc := 1247) hx hb dL_law_1247 rfl hk) ?_
  refine rz_All_c (i := 755) (fun k J hk hJ => rz_iconst_ok (pc := 1248) hx hb dL_law_1248 rfl hk) ?_
  refine rz_All_c (i := 756) (fun k J hk hJ => rz_iadd_ok (pc := 1249) hx hb dL_law_1249 hk) ?_
  refine rz_All_c (i := 757) (fun k J hk hJ => rz_sld_ok (pc := 1250) hx hb hX hbl hbA hn hn2 hv dL_law_1250 hk) ?_
  refine rz_All_c (i := 758) (fun k J hk hJ => rz_callV_ok (pc := 1251) (own := "ThreadJudgeLaw") (C := RX12) (T0 := TX12) (N0 := 257) (ci := 14) hC rfl (rmX12_run l hG) (lw_cw 2 htsL (lw_mL (i := 254) rfl) (lw_mL (i := 255) rfl) (lw_mL (i := 256) rfl) (lw_mL (i := 8) rfl) (lw_mL (i := 257) rfl) ⟨rfl, by decide, by decide, by decide +kernel⟩ ⟨by decide, by decide⟩) rfl dL_law_1251 hk ⟨Nat.le_refl _, Nat.le_refl _⟩ lw_hf) ?_
  refine rz_All_c (i := 759) (fun k J hk hJ => rz_icmpeq_ok (pc := 1254) hx hb dL_law_1254 rfl hk (hJ 913)) ?_
  refine rz_All_c (i := 760) (fun k J hk hJ => rz_no_ok) ?_
  refine rz_All_c (i := 761) (fun k J hk hJ => rz_aload_n_ok (pc := 1259) hx hb dL_law_1259 rfl hk) ?_
  refine rz_All_c (i := 762) (fun k J hk hJ => rz_aload_n_ok (pc := 1260) hx hb dL_law_1260 rfl hk) ?_
  refine rz_All_c (i := 763) (fun k J hk hJ => rz_iload_n_ok (pc := 1261) hx hb dL_law_1261 rfl hk) ?_
  refine rz_All_c (i := 764) (fun k J hk hJ => rz_iconst_ok (pc := 1262) hx hb dL_law_1262 rfl hk) ?_
  refine rz_All_c (i := 765) (fun k J hk hJ => rz_iadd_ok (pc := 1263) hx hb dL_law_1263 hk) ?_
  refine rz_All_c (i := 766) (fun k J hk hJ => rz_sld_ok (pc := 1264) hx hb hX hbl hbA hn hn2 hv dL_law_1264 hk) ?_
  refine rz_All_c (i := 767) (fun k J hk hJ => rz_aload_n_ok (pc := 1265) hx hb dL_law_1265 rfl hk) ?_
  refine rz_All_c (i := 768) (fun k J hk hJ => rz_iload_n_ok (pc := 1266) hx hb dL_law_1266 rfl hk) ?_
  refine rz_All_c (i := 769) (fun k J hk hJ => rz_iconst_ok (pc := 1267) hx hb dL_law_1267 rfl hk) ?_
  refine rz_All_c (i := 770) (fun k J hk hJ => rz_iadd_ok (pc := 1268) hx hb dL_law_1268 hk) ?_
  refine rz_All_c (i := 771) (fun k J hk hJ => rz_sld_ok (pc := 1269) hx hb hX hbl hbA hn hn2 hv dL_law_1269 hk) ?_
  refine rz_All_c (i := 772) (fun k J hk hJ => rz_callV_ok (pc := 1270) (own := "ThreadJudgeLaw") (C := RX11) (T0 := TX11) (N0 := 16) (ci := 13) hC rfl (rmX11_state l hG) (lw_cw 2 htsL (lw_mL (i := 258) rfl) (lw_mL (i := 259) rfl) (lw_mL (i := 260) rfl) (lw_mL (i := 3) rfl) (lw_mL (i := 261) rfl) ⟨rfl, by decide, by decide, by decide +kernel⟩ ⟨by decide, by decide⟩) rfl dL_law_1270 hk ⟨Nat.le_refl _, Nat.le_refl _⟩ lw_hf) ?_
  refine rz_All_c (i := 773) (fun k J hk hJ => rz_aload_n_ok (pc := 1273) hx hb dL_law_1273 rfl hk) ?_
  refine rz_All_c (i := 774) (fun k J hk hJ => rz_aload_n_ok (pc := 1274) hx hb dL_law_1274 rfl hk) ?_
  refine rz_All_c (i := 775) (fun k J hk hJ => rz_iload_n_ok (pc := 1275) hx hb dL_law_1275 rfl hk) ?_
  refine rz_All_c (i := 776) (fun k J hk hJ => rz_iconst_ok (pc := 1276) hx hb dL_law_1276 rfl hk) ?_
  refine rz_All_c (i := 777) (fun k J hk hJ => rz_iadd_ok (pc := 1277) hx hb dL_law_1277 hk) ?_
  refine rz_All_c (i := 778) (fun k J hk hJ => rz_sld_ok (pc := 1278) hx hb hX hbl hbA hn hn2 hv dL_law_1278 hk) ?_
  refine rz_All_c (i := 779) (fun k J hk hJ => rz_aload_n_ok (pc := 1279) hx hb dL_law_1279 rfl hk) ?_
  refine rz_All_c (i := 780) (fun k J hk hJ => rz_iload_n_ok (pc := 1280) hx hb dL_law_1280 rfl hk) ?_
  refine rz_All_c (i := 781) (fun k J hk hJ => rz_iconst_ok (pc := 1281) hx hb dL_law_1281 rfl hk) ?_
  refine rz_All_c (i := 782) (fun k J hk hJ => rz_iadd_ok (pc := 1282) hx hb dL_law_1282 hk) ?_
  refine rz_All_c (i := 783) (fun k J hk hJ => rz_sld_ok (pc := 1283) hx hb hX hbl hbA hn hn2 hv dL_law_1283 hk) ?_
  refine rz_All_c (i := 784) (fun k J hk hJ => rz_callV_ok (pc := 1284) (own := "ThreadJudgeLaw") (C := RX12) (T0 := TX12) (N0 := 257) (ci := 14) hC rfl (rmX12_state l hG) (lw_cw 2 htsL (lw_mL (i := 262) rfl) (lw_mL (i := 263) rfl) (lw_mL (i := 264) rfl) (lw_mL (i := 8) rfl) (lw_mL (i := 265) rfl) ⟨rfl, by decide, by decide, by decide +kernel⟩ ⟨by decide, by decide⟩) rfl dL_law_1284 hk ⟨Nat.le_refl _, Nat.le_refl _⟩ lw_hf) ?_
  refine rz_All_c (i := 785) (fun k J hk hJ => rz_icmpeq_ok (pc := 1287) hx hb dL_law_1287 rfl hk (hJ 913)) ?_
  refine rz_All_c (i := 786) (fun k J hk hJ => rz_no_ok) ?_
  refine rz_All_c (i := 787) (fun k J hk hJ => rz_aload_n_ok (pc := 1292) hx hb dL_law_1292 rfl hk) ?_
  refine rz_All_c (i := 788) (fun k J hk hJ => rz_aload_n_ok (pc := 1293) hx hb dL_law_1293 rfl hk) ?_
  refine rz_All_c (i := 789) (fun k J hk hJ => rz_iload_n_ok (pc := 1294) hx hb dL_law_1294 rfl hk) ?_
  refine rz_All_c (i := 790) (fun k J hk hJ => rz_iconst_ok (pc := 1295) hx hb dL_law_1295 rfl hk) ?_
  refine rz_All_c (i := 791) (fun k J hk hJ => rz_iadd_ok (pc := 1296) hx hb dL_law_1296 hk) ?_
  refine rz_All_c (i := 792) (fun k J hk hJ => rz_sld_ok (pc := 1297) hx hb hX hbl hbA hn hn2 hv dL_law_1297 hk) ?_
  refine rz_All_c (i := 793) (fun k J hk hJ => rz_aload_n_ok (pc := 1298) hx hb dL_law_1298 rfl hk) ?_
  refine rz_All_c (i := 794) (fun k J hk hJ => rz_iload_n_ok (pc := 1299) hx hb dL_law_1299 rfl hk) ?_
  refine rz_All_c (i := 795) (fun k J hk hJ => rz_iconst_ok (pc := 1300) hx hb dL_law_1300 rfl hk) ?_
  refine rz_All_c (i := 796) (fun k J hk hJ => rz_iadd_ok (pc := 1301) hx hb dL_law_1301 hk) ?_
  refine rz_All_c (i := 797) (fun k J hk hJ => rz_sld_ok (pc := 1302) hx hb hX hbl hbA hn hn2 hv dL_law_1302 hk) ?_
  refine rz_All_c (i := 798) (fun k J hk hJ => rz_callV_ok (pc := 1303) (own := "ThreadJudgeLaw") (C := RX11) (T0 := TX11) (N0 := 16) (ci := 13) hC rfl (rmX11_local l hG) (lw_cw 2 htsL (lw_mL (i := 266) rfl) (lw_mL (i := 267) rfl) (lw_mL (i := 268) rfl) (lw_mL (i := 3) rfl) (lw_mL (i := 269) rfl) ⟨rfl, by decide, by decide, by decide +kernel⟩ ⟨by decide, by decide⟩) rfl dL_law_1303 hk ⟨Nat.le_refl _, Nat.le_refl _⟩ lw_hf) ?_
  refine rz_All_c (i := 799) (fun k J hk hJ => rz_aload_n_ok (pc := 1306) hx hb dL_law_1306 rfl hk) ?_
  refine rz_All_c (i := 800) (fun k J hk hJ => rz_aload_n_ok (pc := 1307) hx hb dL_law_1307 rfl hk) ?_
  refine rz_All_c (i := 801) (fun k J hk hJ => rz_iload_n_ok (pc := 1308) hx hb dL_law_1308 rfl hk) ?_
  refine rz_All_c (i := 802) (fun k J hk hJ => rz_iconst_ok (pc := 1309) hx hb dL_law_1309 rfl hk) ?_
  refine rz_All_c (i := 803) (fun k J hk hJ => rz_iadd_ok (pc := 1310) hx hb dL_law_1310 hk) ?_
  refine rz_All_c (i := 804) (fun k J hk hJ => rz_sld_ok (pc := 1311) hx hb hX hbl hbA hn hn2 hv dL_law_1311 hk) ?_
  refine rz_All_c (i := 805) (fun k J hk hJ => rz_aload_n_ok (pc := 1312) hx hb dL_law_1312 rfl hk) ?_
  refine rz_All_c (i := 806) (fun k J hk hJ => rz_iload_n_ok (pc := 1313) hx hb dL_law_1313 rfl hk) ?_
  refine rz_All_c (i := 807) (fun k J hk hJ => rz_iconst_ok (pc := 1314) hx hb dL_law_1314 rfl hk) ?_
  refine rz_All_c (i := 808) (fun k J hk hJ => rz_iadd_ok (pc := 1315) hx hb dL_law_1315 hk) ?_
  refine rz_All_c (i := 809) (fun k J hk hJ => rz_sld_ok (pc := 1316) hx hb hX hbl hbA hn hn2 hv dL_law_1316 hk) ?_
  refine rz_All_c (i := 810) (fun k J hk hJ => rz_callV_ok (pc := 1317) (own := "ThreadJudgeLaw") (C := RX12) (T0 := TX12) (N0 := 257) (ci := 14) hC rfl (rmX12_local l hG) (lw_cw 2 htsL (lw_mL (i := 270) rfl) (lw_mL (i := 271) rfl) (lw_mL (i := 272) rfl) (lw_mL (i := 8) rfl) (lw_mL (i := 273) rfl) ⟨rfl, by decide, by decide, by decide +kernel⟩ ⟨by decide, by decide⟩) rfl dL_law_1317 hk ⟨Nat.le_refl _, Nat.le_refl _⟩ lw_hf) ?_
  refine rz_All_c (i := 811) (fun k J hk hJ => rz_icmpeq_ok (pc := 1320) hx hb dL_law_1320 rfl hk (hJ 913)) ?_
  refine rz_All_c (i := 812) (fun k J hk hJ => rz_no_ok) ?_
  refine rz_All_c (i := 813) (fun k J hk hJ => rz_aload_n_ok (pc := 1325) hx hb dL_law_1325 rfl hk) ?_
  refine rz_All_c (i := 814) (fun k J hk hJ => rz_aload_n_ok (pc := 1326) hx hb dL_law_1326 rfl hk) ?_
  refine rz_All_c (i := 815) (fun k J hk hJ => rz_iload_n_ok (pc := 1327) hx hb dL_law_1327 rfl hk) ?_
  refine rz_All_c (i := 816) (fun k J hk hJ => rz_iconst_ok (pc := 1328) hx hb dL_law_1328 rfl hk) ?_
  refine rz_All_c (i := 817) (fun k J hk hJ => rz_iadd_ok (pc := 1329) hx hb dL_law_1329 hk) ?_
  refine rz_All_c (i := 818) (fun k J hk hJ => rz_sld_ok (pc := 1330) hx hb hX hbl hbA hn hn2 hv dL_law_1330 hk) ?_
  refine rz_All_c (i := 819) (fun k J hk hJ => rz_aload_n_ok (pc := 1331) hx hb dL_law_1331 rfl hk) ?_
  refine rz_All_c (i := 820) (fun k J hk hJ => rz_iload_n_ok (pc := 1332) hx hb dL_law_1332 rfl hk) ?_
  refine rz_All_c (i := 821) (fun k J hk hJ => rz_iconst_ok (pc := 1333) hx hb dL_law_1333 rfl hk) ?_
  refine rz_All_c (i := 822) (fun k J hk hJ => rz_iadd_ok (pc := 1334) hx hb dL_law_1334 hk) ?_
  refine rz_All_c (i := 823) (fun k J hk hJ => rz_sld_ok (pc := 1335) hx hb hX hbl hbA hn hn2 hv dL_law_1335 hk) ?_
  refine rz_All_c (i := 824) (fun k J hk hJ => rz_callV_ok (pc := 1336) (own := "ThreadJudgeLaw") (C := RX11) (T0 := TX11) (N0 := 16) (ci := 13) hC rfl (rmX11_thing l hG) (lw_cw 2 htsL (lw_mL (i := 274) rfl) (lw_mL (i := 275) rfl) (lw_mL (i := 276) rfl) (lw_mL (i := 3) rfl) (lw_mL (i := 277) rfl) ⟨rfl, by decide, by decide, by decide +kernel⟩ ⟨by decide, by decide⟩) rfl dL_law_1336 hk ⟨Nat.le_refl _, Nat.le_refl _⟩ lw_hf) ?_
  refine rz_All_c (i := 825) (fun k J hk hJ => rz_aload_n_ok (pc := 1339) hx hb dL_law_1339 rfl hk) ?_
  refine rz_All_c (i := 826) (fun k J hk hJ => rz_aload_n_ok (pc := 1340) hx hb dL_law_1340 rfl hk) ?_
  refine rz_All_c (i := 827) (fun k J hk hJ => rz_iload_n_ok (pc := 1341) hx hb dL_law_1341 rfl hk) ?_
  refine rz_All_c (i := 828) (fun k J hk hJ => rz_iconst_ok (pc := 1342) hx hb dL_law_1342 rfl hk) ?_
  refine rz_All_c (i := 829) (fun k J hk hJ => rz_iadd_ok (pc := 1343) hx hb dL_law_1343 hk) ?_
  refine rz_All_c (i := 830) (fun k J hk hJ => rz_sld_ok (pc := 1344) hx hb hX hbl hbA hn hn2 hv dL_law_1344 hk) ?_
  refine rz_All_c (i := 831) (fun k J hk hJ => rz_aload_n_ok (pc := 1345) hx hb dL_law_1345 rfl hk) ?_
  refine rz_All_c (i := 832) (fun k J hk hJ => rz_iload_n_ok (pc := 1346) hx hb dL_law_1346 rfl hk) ?_
  refine rz_All_c (i := 833) (fun k J hk hJ => rz_iconst_ok (pc := 1347) hx hb dL_law_1347 rfl hk) ?_
  refine rz_All_c (i := 834) (fun k J hk hJ => rz_iadd_ok (pc := 1348) hx hb dL_law_1348 hk) ?_
  refine rz_All_c (i := 835) (fun k J hk hJ => rz_sld_ok (pc := 1349) hx hb hX hbl hbA hn hn2 hv dL_law_1349 hk) ?_
  refine rz_All_c (i := 836) (fun k J hk hJ => rz_callV_ok (pc := 1350) (own := "ThreadJudgeLaw") (C := RX12) (T0 := TX12) (N0 := 257) (ci := 14) hC rfl (rmX12_thing l hG) (lw_cw 2 htsL (lw_mL (i := 278) rfl) (lw_mL (i := 279) rfl) (lw_mL (i := 280) rfl) (lw_mL (i := 8) rfl) (lw_mL (i := 281) rfl) ⟨rfl, by decide, by decide, by decide +kernel⟩ ⟨by decide, by decide⟩) rfl dL_law_1350 hk ⟨Nat.le_refl _, Nat.le_refl _⟩ lw_hf) ?_
  refine rz_All_c (i := 837) (fun k J hk hJ => rz_icmpeq_ok (pc := 1353) hx hb dL_law_1353 rfl hk (hJ 913)) ?_
  refine rz_All_c (i := 838) (fun k J hk hJ => rz_no_ok) ?_
  refine rz_All_c (i := 839) (fun k J hk hJ => rz_aload_n_ok (pc := 1358) hx hb dL_law_1358 rfl hk) ?_
  refine rz_All_c (i := 840) (fun k J hk hJ => rz_aload_n_ok (pc := 1359) hx hb dL_law_1359 rfl hk) ?_
  refine rz_All_c (i := 841) (fun k J hk hJ => rz_iload_n_ok (pc := 1360) hx hb dL_law_1360 rfl hk) ?_
  refine rz_All_c (i := 842) (fun k J hk hJ => rz_iconst_ok (pc := 1361) hx hb dL_law_1361 rfl hk) ?_
  refine rz_All_c (i := 843) (fun k J hk hJ => rz_iadd_ok (pc := 1362) hx hb dL_law_1362 hk) ?_
  refine rz_All_c (i := 844) (fun k J hk hJ => rz_sld_ok (pc := 1363) hx hb hX hbl hbA hn hn2 hv dL_law_1363 hk) ?_
  refine rz_All_c (i := 845) (fun k J hk hJ => rz_aload_n_ok (pc := 1364) hx hb dL_law_1364 rfl hk) ?_
  refine rz_All_c (i := 846) (fun k J hk hJ => rz_iload_n_ok (pc := 1365) hx hb dL_law_1365 rfl hk) ?_
  refine rz_All_c (i := 847) (fun k J hk hJ => rz_iconst_ok (pc := 1366) hx hb dL_law_1366 rfl hk) ?_
  refine rz_All_c (i := 848) (fun k J hk hJ => rz_iadd_ok (pc := 1367) hx hb dL_law_1367 hk) ?_
  refine rz_All_c (i := 849) (fun k J hk hJ => rz_sld_ok (pc := 1368) hx hb hX hbl hbA hn hn2 hv dL_law_1368 hk) ?_
  refine rz_All_c (i := 850) (fun k J hk hJ => rz_callV_ok (pc := 1369) (own := "ThreadJudgeLaw") (C := RX11) (T0 := TX11) (N0 := 16) (ci := 13) hC rfl (rmX11_value l hG) (lw_cw 2 htsL (lw_mL (i := 282) rfl) (lw_mL (i := 283) rfl) (lw_mL (i := 284) rfl) (lw_mL (i := 3) rfl) (lw_mL (i := 285) rfl) ⟨rfl, by decide, by decide, by decide +kernel⟩ ⟨by decide, by decide⟩) rfl dL_law_1369 hk ⟨Nat.le_refl _, Nat.le_refl _⟩ lw_hf) ?_
  refine rz_All_c (i := 851) (fun k J hk hJ => rz_aload_n_ok (pc := 1372) hx hb dL_law_1372 rfl hk) ?_
  refine rz_All_c (i := 852) (fun k J hk hJ => rz_aload_n_ok (pc := 1373) hx hb dL_law_1373 rfl hk) ?_
  refine rz_All_c (i := 853) (fun k J hk hJ => rz_iload_n_ok (pc := 1374) hx hb dL_law_1374 rfl hk) ?_
  refine rz_All_c (i := 854) (fun k J hk hJ => rz_iconst_ok (pc := 1375) hx hb dL_law_1375 rfl hk) ?_
  refine rz_All_c (i := 855) (fun k J hk hJ => rz_iadd_ok (pc := 1376) hx hb dL_law_1376 hk) ?_
  refine rz_All_c (i := 856) (fun k J hk hJ => rz_sld_ok (pc := 1377) hx hb hX hbl hbA hn hn2 hv dL_law_1377 hk) ?_
  refine rz_All_c (i := 857) (fun k J hk hJ => rz_aload_n_ok (pc := 1378) hx hb dL_law_1378 rfl hk) ?_
  refine rz_All_c (i := 858) (fun k J hk hJ => rz_iload_n_ok (pc := 1379) hx hb dL_law_1379 rfl hk) ?_
  refine rz_All_c (i := 859) (fun k J hk hJ => rz_iconst_ok (pc := 1380) hx hb dL_law_1380 rfl hk) ?_
  refine rz_All_c (i := 860) (fun k J hk hJ => rz_iadd_ok (pc := 1381) hx hb dL_law_1381 hk) ?_
  refine rz_All_c (i := 861) (fun k J hk hJ => rz_sld_ok (pc := 1382) hx hb hX hbl hbA hn hn2 hv dL_law_1382 hk) ?_
  refine rz_All_c (i := 862) (fun k J hk hJ => rz_callV_ok (pc := 1383) (own := "ThreadJudgeLaw") (C := RX12) (T0 := TX12) (N0 := 257) (ci := 14) hC rfl (rmX12_value l hG) (lw_cw 2 htsL (lw_mL (i := 286) rfl) (lw_mL (i := 287) rfl) (lw_mL (i := 288) rfl) (lw_mL (i := 8) rfl) (lw_mL (i := 289) rfl) ⟨rfl, by decide, by decide, by decide +kernel⟩ ⟨by decide, by decide⟩) rfl dL_law_1383 hk ⟨Nat.le_refl _, Nat.le_refl _⟩ lw_hf) ?_
  refine rz_All_c (i := 863) (fun k J hk hJ => rz_icmpeq_ok (pc := 1386) hx hb dL_law_1386 rfl hk (hJ 913)) ?_
  refine rz_All_c (i := 864) (fun k J hk hJ => rz_no_ok) ?_
  refine rz_All_c (i := 865) (fun k J hk hJ => rz_aload_n_ok (pc := 1391) hx hb dL_law_1391 rfl hk) ?_
  refine rz_All_c (i := 866) (fun k J hk hJ => rz_aload_n_ok (pc := 1392) hx hb dL_law_1392 rfl hk) ?_
  refine rz_All_c (i := 867) (fun k J hk hJ => rz_iload_n_ok (pc := 1393) hx hb dL_law_1393 rfl hk) ?_
  refine rz_All_c (i := 868) (fun k J hk hJ => rz_iconst_ok (pc := 1394) hx hb dL_law_1394 rfl hk) ?_
  refine rz_All_c (i := 869) (fun k J hk hJ => rz_iadd_ok (pc := 1395) hx hb dL_law_1395 hk) ?_
  refine rz_All_c (i := 870) (fun k J hk hJ => rz_sld_ok (pc := 1396) hx hb hX hbl hbA hn hn2 hv dL_law_1396 hk) ?_
  refine rz_All_c (i := 871) (fun k J hk hJ => rz_callV_ok (pc := 1397) (own := "ThreadJudgeLaw") (C := RX11) (T0 := TX11) (N0 := 16) (ci := 13) hC rfl (rmX11_said l hG) (lw_cw 1 htsL (lw_mL (i := 290) rfl) (lw_mL (i := 291) rfl) (lw_mL (i := 292) rfl) (lw_mL (i := 3) rfl) (lw_mL (i := 293) rfl) ⟨rfl, by decide, by decide, by decide +kernel⟩ ⟨by decide, by decide⟩) rfl dL_law_1397 hk ⟨Nat.le_refl _, Nat.le_refl _⟩ lw_hf) ?_
  refine rz_All_c (i := 872) (fun k J hk hJ => rz_aload_n_ok (pc := 1400) hx hb dL_law_1400 rfl hk) ?_
  refine rz_All_c (i := 873) (fun k J hk hJ => rz_aload_n_ok (pc := 1401) hx hb dL_law_1401 rfl hk) ?_
  refine rz_All_c (i := 874) (fun k J hk hJ => rz_iload_n_ok (pc := 1402) hx hb dL_law_1402 rfl hk) ?_
  refine rz_All_c (i := 875) (fun k J hk hJ => rz_iconst_ok (pc := 1403) hx hb dL_law_1403 rfl hk) ?_
  refine rz_All_c (i := 876) (fun k J hk hJ => rz_iadd_ok (pc := 1404) hx hb dL_law_1404 hk) ?_
  refine rz_All_c (i := 877) (fun k J hk hJ => rz_sld_ok (pc := 1405) hx hb hX hbl hbA hn hn2 hv dL_law_1405 hk) ?_
  refine rz_All_c (i := 878) (fun k J hk hJ => rz_callV_ok (pc := 1406) (own := "ThreadJudgeLaw") (C := RX12) (T0 := TX12) (N0 := 257) (ci := 14) hC rfl (rmX12_said l hG) (lw_cw 1 htsL (lw_mL (i := 294) rfl) (lw_mL (i := 295) rfl) (lw_mL (i := 296) rfl) (lw_mL (i := 8) rfl) (lw_mL (i := 297) rfl) ⟨rfl, by decide, by decide, by decide +kernel⟩ ⟨by decide, by decide⟩) rfl dL_law_1406 hk ⟨Nat.le_refl _, Nat.le_refl _⟩ lw_hf) ?_
  refine rz_All_c (i := 879) (fun k J hk hJ => rz_icmpeq_ok (pc := 1409) hx hb dL_law_1409 rfl hk (hJ 913)) ?_
  refine rz_All_c (i := 880) (fun k J hk hJ => rz_no_ok) ?_
  refine rz_All_c (i := 881) (fun k J hk hJ => rz_aload_n_ok (pc := 1414) hx hb dL_law_1414 rfl hk) ?_
  refine rz_All_c (i := 882) (fun k J hk hJ => rz_aload_n_ok (pc := 1415) hx hb dL_law_1415 rfl hk) ?_
  refine rz_All_c (i := 883) (fun k J hk hJ => rz_iload_n_ok (pc := 1416) hx hb dL_law_1416 rfl hk) ?_
  refine rz_All_c (i := 884) (fun k J hk hJ => rz_iconst_ok (pc := 1417) hx hb dL_law_1417 rfl hk) ?_
  refine rz_All_c (i := 885) (fun k J hk hJ => rz_iadd_ok (pc := 1418) hx hb dL_law_1418 hk) ?_
  refine rz_All_c (i := 886) (fun k J hk hJ => rz_sld_ok (pc := 1419) hx hb hX hbl hbA hn hn2 hv dL_law_1419 hk) ?_
  refine rz_All_c (i := 887) (fun k J hk hJ => rz_aload_n_ok (pc := 1420) hx hb dL_law_1420 rfl hk) ?_
  refine rz_All_c (i := 888) (fun k J hk hJ => rz_iload_n_ok (pc := 1421) hx hb dL_law_1421 rfl hk) ?_
  refine rz_All_c (i := 889) (fun k J hk hJ => rz_iconst_ok (pc := 1422) hx hb dL_law_1422 rfl hk) ?_
  refine rz_All_c (i := 890) (fun k J hk hJ => rz_iadd_ok (pc := 1423) hx hb dL_law_1423 hk) ?_
  refine rz_All_c (i := 891) (fun k J hk hJ => rz_sld_ok (pc := 1424) hx hb hX hbl hbA hn hn2 hv dL_law_1424 hk) ?_
  refine rz_All_c (i := 892) (fun k J hk hJ => rz_callV_ok (pc := 1425) (own := "ThreadJudgeLaw") (C := RX11) (T0 := TX11) (N0 := 16) (ci := 13) hC rfl (rmX11_clash l hG) (lw_cw 2 htsL (lw_mL (i := 298) rfl) (lw_mL (i := 299) rfl) (lw_mL (i := 300) rfl) (lw_mL (i := 3) rfl) (lw_mL (i := 301) rfl) ⟨rfl, by decide, by decide, by decide +kernel⟩ ⟨by decide, by decide⟩) rfl dL_law_1425 hk ⟨Nat.le_refl _, Nat.le_refl _⟩ lw_hf) ?_
  refine rz_All_c (i := 893) (fun k J hk hJ => rz_aload_n_ok (pc := 1428) hx hb dL_law_1428 rfl hk) ?_
  refine rz_All_c (i := 894) (fun k J hk hJ => rz_aload_n_ok (pc := 1429) hx hb dL_law_1429 rfl hk) ?_
  refine rz_All_c (i := 895) (fun k J hk hJ => rz_iload_n_ok (pc := 1430) hx hb dL_law_1430 rfl hk) ?_
  refine rz_All_c (i := 896) (fun k J hk hJ => rz_iconst_ok (pc := 1431) hx hb dL_law_1431 rfl hk) ?_
  refine rz_All_c (i := 897) (fun k J hk hJ => rz_iadd_ok (pc := 1432) hx hb dL_law_1432 hk) ?_
  refine rz_All_c (i := 898) (fun k J hk hJ => rz_sld_ok (pc := 1433) hx hb hX hbl hbA hn hn2 hv dL_law_1433 hk) ?_
  refine rz_All_c (i := 899) (fun k J hk hJ => rz_aload_n_ok (pc := 1434) hx hb dL_law_1434 rfl hk) ?_
  refine rz_All_c (i := 900) (fun k J hk hJ => rz_iload_n_ok (pc := 1435) hx hb dL_law_1435 rfl hk) ?_
  refine rz_All_c (i := 901) (fun k J hk hJ => rz_iconst_ok (pc := 1436) hx hb dL_law_1436 rfl hk) ?_
  refine rz_All_c (i := 902) (fun k J hk hJ => rz_iadd_ok (pc := 1437) hx hb dL_law_1437 hk) ?_
  refine rz_All_c (i := 903) (fun k J hk hJ => rz_sld_ok (pc := 1438) hx hb hX hbl hbA hn hn2 hv dL_law_1438 hk) ?_
  refine rz_All_c (i := 904) (fun k J hk hJ => rz_callV_ok (pc := 1439) (own := "ThreadJudgeLaw") (C := RX12) (T0 := TX12) (N0 := 257) (ci := 14) hC rfl (rmX12_clash l hG) (lw_cw 2 htsL (lw_mL (i := 302) rfl) (lw_mL (i := 303) rfl) (lw_mL (i := 304) rfl) (lw_mL (i := 8) rfl) (lw_mL (i := 305) rfl) ⟨rfl, by decide, by decide, by decide +kernel⟩ ⟨by decide, by decide⟩) rfl dL_law_1439 hk ⟨Nat.le_refl _, Nat.le_refl _⟩ lw_hf) ?_
  refine rz_All_c (i := 905) (fun k J hk hJ => rz_icmpeq_ok (pc := 1442) hx hb dL_law_1442 rfl hk (hJ 913)) ?_
  refine rz_All_c (i := 906) (fun k J hk hJ => rz_no_ok) ?_
  refine rz_All_c (i := 907) (fun k J hk hJ => rz_aload_n_ok (pc := 1447) hx hb dL_law_1447 rfl hk) ?_
  refine rz_All_c (i := 908) (fun k J hk hJ => rz_callV_ok (pc := 1448) (own := "ThreadJudgeLaw") (C := RX11) (T0 := TX11) (N0 := 16) (ci := 13) hC rfl (rmX11_foreseen l hG) (lw_cw 0 htsL (lw_mL (i := 306) rfl) (lw_mL (i := 307) rfl) (lw_mL (i := 308) rfl) (lw_mL (i := 3) rfl) (lw_mL (i := 309) rfl) ⟨rfl, by decide, by decide, by decide +kernel⟩ ⟨by decide, by decide⟩) rfl dL_law_1448 hk ⟨Nat.le_refl _, Nat.le_refl _⟩ lw_hf) ?_
  refine rz_All_c (i := 909) (fun k J hk hJ => rz_aload_n_ok (pc := 1451) hx hb dL_law_1451 rfl hk) ?_
  refine rz_All_c (i := 910) (fun k J hk hJ => rz_callV_ok (pc := 1452) (own := "ThreadJudgeLaw") (C := RX12) (T0 := TX12) (N0 := 257) (ci := 14) hC rfl (rmX12_foreseen l hG) (lw_cw 0 htsL (lw_mL (i := 310) rfl) (lw_mL (i := 311) rfl) (lw_mL (i := 312) rfl) (lw_mL (i := 8) rfl) (lw_mL (i := 313) rfl) ⟨rfl, by decide, by decide, by decide +kernel⟩ ⟨by decide, by decide⟩) rfl dL_law_1452 hk ⟨Nat.le_refl _, Nat.le_refl _⟩ lw_hf) ?_
  refine rz_All_c (i := 911) (fun k J hk hJ => rz_icmpeq_ok (pc := 1455) hx hb dL_law_1455 rfl hk (hJ 913)) ?_
  refine rz_All_c (i := 912) (fun k J hk hJ => rz_no_ok) ?_
  refine rz_All_c (i := 913) (fun k J hk hJ => rz_iinc_ok (pc := 1460) hx hb dL_law_1460 (by decide) hk) ?_
  refine rz_All_c (i := 914) (fun k J hk hJ => rz_goto_ok (pc := 1463) hx hb dL_law_1463 rfl (hJ 0)) ?_
  refine rz_All_c (i := 915) (fun k J hk hJ => rz_iconst_ok (pc := 1466) hx hb dL_law_1466 rfl hk) ?_
  refine rz_All_c (i := 916) (fun k J hk hJ => rz_lret1_ok (pc := 1467) hx hb hr hlk hbs lw_hz dL_law_1467) ?_
  exact trivial
