theorem tin_6_3 : ∀ w ∈ (tblG_6.drop (10 * 3)).take 10, w ∈ lw_tbl := mem_pl [912, 914, 28, 908, 930, 928, 929, 927, 938, 945] (by decide +kernel)
theorem tin_6_4 : ∀ w ∈ (tblG_6.drop (10 * 4)).take 10, w ∈ lw_tbl := mem_pl [947, 948, 950, 951, 952, 953, 955, 956, 957, 958] (by decide +kernel)
theorem tin_6_5 : ∀ w ∈ (tblG_6.drop (10 * 5)).take 10, w ∈ lw_tbl := mem_pl [960, 961, 962, 963, 944, 946, 1010, 1021, 949, 1164] (by decide +kernel)
theorem tin_6_6 : ∀ w ∈ (tblG_6.drop (10 * 6)).take 10, w ∈ lw_tbl := mem_pl [1014, 1028, 1026, 1027, 73, 1025, 1019, 1020, 1022, 1024] (by decide +kernel)
theorem tin_6_7 : ∀ w ∈ (tblG_6.drop (10 * 7)).take 10, w ∈ lw_tbl := mem_pl [29, 1018, 1032, 1261, 1277, 1132, 1069, 1067, 1068, 1124] (by decide +kernel)
theorem tin_6 : ∀ w ∈ tblG_6, w ∈ lw_tbl := mem_cut 8 (by decide +kernel) (fun i hi => by
  rcases (show i = 0 ∨ i = 1 ∨ i = 2 ∨ i = 3 ∨ i = 4 ∨ i = 5 ∨ i = 6 ∨ i = 7 by omega) with rfl | rfl | rfl | rfl | rfl | rfl | rfl | rfl
  · exact tin_6_0
  · exact tin_6_1
  · exact tin_6_2
  · exact tin_6_3
  · exact tin_6_4
  · exact tin_6_5
  · exact tin_6_6
  · exact tin_6_7)
theorem tin_7_0 : ∀ w ∈ (tblG_7.drop (10 * 0)).take 10, w ∈ lw_tbl := mem_pl [1081, 1093, 1100, 1098, 1099, 1090, 1092, 37, 1097, 959] (by decide +kernel)
theorem tin_7_1 : ∀ w ∈ (tblG_7.drop (10 * 1)).take 10, w ∈ lw_tbl := mem_pl [1094, 1096, 38, 1089, 1086, 1088, 36, 1085, 1112, 1108] (by decide +kernel)
theorem tin_7_2 : ∀ w ∈ (tblG_7.drop (10 * 2)).take 10, w ∈ lw_tbl := mem_pl [1121, 1123, 44, 1105, 1107, 40, 1120, 1117, 1119, 43] (by decide +kernel)
theorem tin_7_3 : ∀ w ∈ (tblG_7.drop (10 * 3)).take 10, w ∈ lw_tbl := mem_pl [1116, 954, 1036, 1040, 1052, 1055, 1066, 1049, 1051, 31] (by decide +kernel)
theorem tin_7_4 : ∀ w ∈ (tblG_7.drop (10 * 4)).take 10, w ∈ lw_tbl := mem_pl [1063, 1060, 1062, 33, 1064, 1065, 1059, 1053, 1054, 1056] (by decide +kernel)
theorem tin_7_5 : ∀ w ∈ (tblG_7.drop (10 * 5)).take 10, w ∈ lw_tbl := mem_pl [1058, 32, 1048, 1045, 1047, 30, 1044, 1073, 1104, 1078] (by decide +kernel)
theorem tin_7_6 : ∀ w ∈ (tblG_7.drop (10 * 6)).take 10, w ∈ lw_tbl := mem_pl [1080, 34, 1082, 1084, 35, 1101, 1103, 39, 1109, 1111] (by decide +kernel)
theorem tin_7_7 : ∀ w ∈ (tblG_7.drop (10 * 7)).take 10, w ∈ lw_tbl := mem_pl [41, 1113, 1115, 42, 1077, 1129, 1131, 45, 1128, 1136] (by decide +kernel)
theorem tin_7 : ∀ w ∈ tblG_7, w ∈ lw_tbl := mem_cut 8 (by decide +kernel) (fun i hi => by
  rcases (show i = 0 ∨ i = 1 ∨ i = 2 ∨ i = 3 ∨ i = 4 ∨ i = 5 ∨ i = 6 ∨ i = 7 by omega) with rfl | rfl | rfl | rfl | rfl | rfl | rfl | rfl
  · exact tin_7_0
  · exact tin_7_1
  · exact tin_7_2
  · exact tin_7_3
  · exact tin_7_4
  · exact tin_7_5
  · exact tin_7_6
  · exact tin_7_7)
theorem tin_8_0 : ∀ w ∈ (tblG_8.drop (10 * 0)).take 10, w ∈ lw_tbl := mem_pl [1144, 1141, 1143, 46, 1140, 1148, 1156, 1153, 1155, 47] (by decide +kernel)
theorem tin_8_1 : ∀ w ∈ (tblG_8.drop (10 * 1)).take 10, w ∈ lw_tbl := mem_pl [1152, 1161, 1163, 48, 1160, 1172, 1169, 1171, 49, 1168] (by decide +kernel)
theorem tin_8_2 : ∀ w ∈ (tblG_8.drop (10 * 2)).take 10, w ∈ lw_tbl := mem_pl [1180, 1177, 1179, 50, 1176, 1188, 1192, 1185, 1187, 51] (by decide +kernel)
theorem tin_8_3 : ∀ w ∈ (tblG_8.drop (10 * 3)).take 10, w ∈ lw_tbl := mem_pl [1189, 1191, 52, 1184, 1204, 1208, 1201, 1203, 54, 1205] (by decide +kernel)
theorem tin_8_4 : ∀ w ∈ (tblG_8.drop (10 * 4)).take 10, w ∈ lw_tbl := mem_pl [1207, 55, 1200, 1197, 1199, 53, 1196, 1212, 1216, 1220] (by decide +kernel)
theorem tin_8_5 : ∀ w ∈ (tblG_8.drop (10 * 5)).take 10, w ∈ lw_tbl := mem_pl [1240, 1236, 1233, 1235, 58, 1232, 964, 965, 1229, 1231] (by decide +kernel)
theorem tin_8_6 : ∀ w ∈ (tblG_8.drop (10 * 6)).take 10, w ∈ lw_tbl := mem_pl [57, 1237, 1239, 59, 1228, 1225, 1227, 56, 1224, 1244] (by decide +kernel)
theorem tin_8_7 : ∀ w ∈ (tblG_8.drop (10 * 7)).take 10, w ∈ lw_tbl := mem_pl [1248, 1252, 1269, 1273, 1266, 1268, 62, 1270, 1272, 63] (by decide +kernel)
theorem tin_8 : ∀ w ∈ tblG_8, w ∈ lw_tbl := mem_cut 8 (by decide +kernel) (fun i hi => by
  rcases (show i = 0 ∨ i = 1 ∨ i = 2 ∨ i = 3 ∨ i = 4 ∨ i = 5 ∨ i = 6 ∨ i = 7 by omega) with rfl | rfl | rfl | rfl | rfl | rfl | rfl | rfl
  · exact tin_8_0
  · exact tin_8_1
  · exact tin_8_2
  · exact tin_8_3
  · exact tin_8_4
  · exact tin_8_5
  · exact tin_8_6
  · exact tin_8_7)
theorem tin_9_0 : ∀ w ∈ (tblG_9.drop (10 * 0)).take 10, w ∈ lw_tbl := mem_pl [1265, 1257, 1258, 1260, 60, 1262, 1264, 61, 1274, 1276] (by decide +kernel)
theorem tin_9_1 : ∀ w ∈ (tblG_9.drop (10 * 1)).take 10, w ∈ lw_tbl := mem_pl [64, 1256, 1287, 1282, 1283, 1284, 1286, 65, 1281, 322] (by decide +kernel)
theorem tin_9_2 : ∀ w ∈ (tblG_9.drop (10 * 2)).take 10, w ∈ lw_tbl := mem_pl [325, 477, 478, 479, 480, 481, 476, 573, 574, 575] (by decide +kernel)
theorem tin_9_3 : ∀ w ∈ (tblG_9.drop (10 * 3)).take 10, w ∈ lw_tbl := mem_pl [572, 581, 582, 583, 580, 612, 613, 614, 615, 611] (by decide +kernel)
theorem tin_9_4 : ∀ w ∈ (tblG_9.drop (10 * 4)).take 10, w ∈ lw_tbl := mem_pl [646, 647, 648, 645, 660, 661, 662, 659, 667, 668] (by decide +kernel)
theorem tin_9_5 : ∀ w ∈ (tblG_9.drop (10 * 5)).take 10, w ∈ lw_tbl := mem_pl [669, 666, 681, 682, 683, 680, 701, 702, 703, 700] (by decide +kernel)
theorem tin_9_6 : ∀ w ∈ (tblG_9.drop (10 * 6)).take 10, w ∈ lw_tbl := mem_pl [718, 719, 720, 717, 736, 737, 738, 735, 744, 745] (by decide +kernel)
theorem tin_9_7 : ∀ w ∈ (tblG_9.drop (10 * 7)).take 10, w ∈ lw_tbl := mem_pl [746, 743, 757, 758, 759, 756, 789, 790, 791, 788] (by decide +kernel)
theorem tin_9 : ∀ w ∈ tblG_9, w ∈ lw_tbl := mem_cut 8 (by decide +kernel) (fun i hi => by
  rcases (show i = 0 ∨ i = 1 ∨ i = 2 ∨ i = 3 ∨ i = 4 ∨ i = 5 ∨ i = 6 ∨ i = 7 by omega) with rfl | rfl | rfl | rfl | rfl | rfl | rfl | rfl
  · exact tin_9_0
  · exact tin_9_1
  · exact tin_9_2
  · exact tin_9_3
  · exact tin_9_4
  · exact tin_9_5
  · exact tin_9_6
  · exact tin_9_7)
theorem tin_10_0 : ∀ w ∈ (tblG_10.drop (10 * 0)).take 10, w ∈ lw_tbl := mem_pl [796, 797, 798, 795, 804, 805, 806, 803, 812, 813] (by decide +kernel)
theorem tin_10_1 : ∀ w ∈ (tblG_10.drop (10 * 1)).take 10, w ∈ lw_tbl := mem_pl [814, 811, 827, 828, 829, 826, 861, 862, 863, 860] (by decide +kernel)
theorem tin_10_2 : ∀ w ∈ (tblG_10.drop (10 * 2)).take 10, w ∈ lw_tbl := mem_pl [869, 870, 871, 868, 905, 906, 907, 904, 924, 925] (by decide +kernel)
theorem tin_10_3 : ∀ w ∈ (tblG_10.drop (10 * 3)).take 10, w ∈ lw_tbl := mem_pl [926, 923, 935, 936, 937, 934, 87, 88, 940, 941] (by decide +kernel)
theorem tin_10_4 : ∀ w ∈ (tblG_10.drop (10 * 4)).take 10, w ∈ lw_tbl := mem_pl [1289, 1288, 89, 90, 942, 943, 474, 475, 66, 1033] (by decide +kernel)
theorem tin_10_5 : ∀ w ∈ (tblG_10.drop (10 * 5)).take 10, w ∈ lw_tbl := mem_pl [1034, 1035, 1007, 1008, 1009, 238, 239, 240, 1037, 1038] (by decide +kernel)
theorem tin_10_6 : ∀ w ∈ (tblG_10.drop (10 * 6)).take 10, w ∈ lw_tbl := mem_pl [1039, 242, 243, 244, 1041, 1042, 1043, 570, 571, 1070] (by decide +kernel)
theorem tin_10_7 : ∀ w ∈ (tblG_10.drop (10 * 7)).take 10, w ∈ lw_tbl := mem_pl [1071, 1072, 578, 579, 1074, 1075, 1076, 609, 610, 1125] (by decide +kernel)
theorem tin_10 : ∀ w ∈ tblG_10, w ∈ lw_tbl := mem_cut 8 (by decide +kernel) (fun i hi => by
  rcases (show i = 0 ∨ i = 1 ∨ i = 2 ∨ i = 3 ∨ i = 4 ∨ i = 5 ∨ i = 6 ∨ i = 7 by omega) with rfl | rfl | rfl | rfl | rfl | rfl | rfl | rfl
  · exact tin_10_0
  · exact tin_10_1
  · exact tin_10_2
  · exact tin_10_3
  · exact tin_10_4
  · exact tin_10_5
  · exact tin_10_6
  · exact tin_10_7)
theorem tin_11_0 : ∀ w ∈ (tblG_11.drop (10 * 0)).take 10, w ∈ lw_tbl := mem_pl [1126, 1127, 643, 644, 1133, 1134, 1135, 657, 658, 1137] (by decide +kernel)
theorem tin_11_1 : ∀ w ∈ (tblG_11.drop (10 * 1)).take 10, w ∈ lw_tbl := mem_pl [1138, 1139, 664, 665, 1145, 1146, 1147, 678, 679, 1149] (by decide +kernel)
theorem tin_11_2 : ∀ w ∈ (tblG_11.drop (10 * 2)).take 10, w ∈ lw_tbl := mem_pl [1150, 1151, 698, 699, 1157, 1158, 1159, 715, 716, 1165] (by decide +kernel)
theorem tin_11_3 : ∀ w ∈ (tblG_11.drop (10 * 3)).take 10, w ∈ lw_tbl := mem_pl [1166, 1167, 733, 734, 1173, 1174, 1175, 741, 742, 1181] (by decide +kernel)
theorem tin_11_4 : ∀ w ∈ (tblG_11.drop (10 * 4)).take 10, w ∈ lw_tbl := mem_pl [1182, 1183, 754, 755, 1193, 1194, 1195, 786, 787, 1209] (by decide +kernel)
theorem tin_11_5 : ∀ w ∈ (tblG_11.drop (10 * 5)).take 10, w ∈ lw_tbl := mem_pl [1210, 1211, 793, 794, 1011, 1012, 1013, 801, 802, 1213] (by decide +kernel)
theorem tin_11_6 : ∀ w ∈ (tblG_11.drop (10 * 6)).take 10, w ∈ lw_tbl := mem_pl [1214, 1215, 809, 810, 1217, 1218, 1219, 824, 825, 1221] (by decide +kernel)
theorem tin_11_7 : ∀ w ∈ (tblG_11.drop (10 * 7)).take 10, w ∈ lw_tbl := mem_pl [1222, 1223, 858, 859, 1241, 1242, 1243, 390, 391, 392] (by decide +kernel)
theorem tin_11 : ∀ w ∈ tblG_11, w ∈ lw_tbl := mem_cut 8 (by decide +kernel) (fun i hi => by
  rcases (show i = 0 ∨ i = 1 ∨ i = 2 ∨ i = 3 ∨ i = 4 ∨ i = 5 ∨ i = 6 ∨ i = 7 by omega) with rfl | rfl | rfl | rfl | rfl | rfl | rfl | rfl
  · exact tin_11_0
  · exact tin_11_1
  · exact tin_11_2
  · exact tin_11_3
  · exact tin_11_4
  · exact tin_11_5
  · exact tin_11_6
  · exact tin_11_7)
theorem tin_12_0 : ∀ w ∈ (tblG_12.drop (10 * 0)).take 10, w ∈ lw_tbl := mem_pl [1245, 1246, 1247, 425, 426, 427, 1249, 1250, 1251, 866] (by decide +kernel)
theorem tin_12_1 : ∀ w ∈ (tblG_12.drop (10 * 1)).take 10, w ∈ lw_tbl := mem_pl [867, 1253, 1254, 1255, 902, 903, 1278, 1279, 1280, 921] (by decide +kernel)
theorem tin_12_2 : ∀ w ∈ (tblG_12.drop (10 * 2)).take 10, w ∈ lw_tbl := mem_pl [922, 1015, 1016, 1017, 932, 933, 1029, 1030, 1031, 97] (by decide +kernel)
theorem tin_12_3 : ∀ w ∈ (tblG_12.drop (10 * 3)).take 10, w ∈ lw_tbl := mem_pl [112, 141, 146, 175, 186, 191, 378, 444, 447, 450] (by decide +kernel)
theorem tin_12_4 : ∀ w ∈ (tblG_12.drop (10 * 4)).take 10, w ∈ lw_tbl := mem_pl [601, 675, 677, 783] (by decide +kernel)
theorem tin_12 : ∀ w ∈ tblG_12, w ∈ lw_tbl := mem_cut 5 (by decide +kernel) (fun i hi => by
  rcases (show i = 0 ∨ i = 1 ∨ i = 2 ∨ i = 3 ∨ i = 4 by omega) with rfl | rfl | rfl | rfl | rfl
  · exact tin_12_0
  · exact tin_12_1
  · exact tin_12_2
  · exact tin_12_3
  · exact tin_12_4)
theorem tin_tblF : tblF.all (fun w => decide (w ∈ lw_tbl)) = true := by decide +kernel
theorem tin_tblX1 : tblX1.all (fun w => decide (w ∈ lw_tbl)) = true := by decide +kernel
theorem tin_tblX2 : tblX2.all (fun w => decide (w ∈ lw_tbl)) = true := by decide +kernel
theorem tin_tblX3 : tblX3.all (fun w => decide (w ∈ lw_tbl)) = true := by decide +kernel
theorem tblG_in : ∀ w ∈ tblG, w ∈ lw_tbl := by
  have all_in : ∀ {L : List Cond}, L.all (fun w => decide (w ∈ lw_tbl)) = true → ∀ w ∈ L, w ∈ lw_tbl := fun h w hw => of_decide_eq_true (List.all_eq_true.mp h w hw)
  intro w hw
  unfold tblG at hw
  rcases List.mem_append.mp hw with h | hw
  · exact tin_0 w h
  rcases List.mem_append.mp hw with h | hw
  · exact tin_1 w h
  rcases List.mem_append.mp hw with h | hw
  · exact tin_2 w h
  rcases List.mem_append.mp hw with h | hw
  · exact tin_3 w h
  rcases List.mem_append.mp hw with h | hw
  · exact tin_4 w h
  rcases List.mem_append.mp hw with h | hw
  · exact tin_5 w h
  rcases List.mem_append.mp hw with h | hw
  · exact tin_6 w h
  rcases List.mem_append.mp hw with h | hw
  · exact tin_7 w h
  rcases List.mem_append.mp hw with h | hw
  · exact tin_8 w h
  rcases List.mem_append.mp hw with h | hw
  · exact tin_9 w h
  rcases List.mem_append.mp hw with h | hw
  · exact tin_10 w h
  rcases List.mem_append.mp hw with h | hw
  · exact tin_11 w h
  rcases List.mem_append.mp hw with h | hw
  · exact tin_12 w h
  rcases List.mem_append.mp hw with h | hw
  · exact all_in tin_tblF w h
  rcases List.mem_append.mp hw with h | hw
  · exact all_in tin_tblX1 w h
  rcases List.mem_append.mp hw with h | hw
  · exact all_in tin_tblX2 w h
  exact all_in tin_tblX3 w hw
