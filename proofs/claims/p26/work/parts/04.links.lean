set_option maxRecDepth 100000 in
set_option maxHeartbeats 4000000 in
def pm_fl : List (Nat × Nat × Nat × Nat × Nat) := [(105, 9, 9, 9, 0), (106, 9, 15, 9, 1), (107, 9, 18, 9, 2), (124, 4, 24, 4, 0), (125, 4, 11, 4, 1), (126, 4, 28, 4, 2), (127, 4, 17, 4, 3), (128, 4, 21, 4, 4), (129, 4, 50, 4, 5), (130, 4, 57, 4, 6), (131, 4, 63, 4, 7), (162, 6, 9, 6, 0), (163, 6, 15, 6, 1), (164, 6, 19, 6, 2), (165, 6, 23, 6, 3), (166, 6, 27, 6, 4), (168, 6, 31, 6, 5), (171, 6, 34, 6, 6), (188, 2, 9, 2, 0), (189, 2, 15, 2, 1), (190, 2, 24, 2, 2), (191, 2, 28, 2, 3), (192, 2, 31, 2, 4), (194, 2, 34, 2, 5), (214, 7, 9, 7, 0), (215, 7, 15, 7, 1), (216, 7, 18, 7, 2), (217, 7, 21, 7, 3), (233, 0, 15, 0, 0), (234, 0, 19, 0, 1), (235, 0, 9, 0, 2), (236, 0, 23, 0, 3), (237, 0, 65, 0, 4), (239, 0, 27, 0, 5), (260, 8, 9, 8, 0), (261, 8, 15, 8, 1), (262, 8, 19, 8, 2), (276, 11, 10, 11, 0), (277, 11, 21, 11, 1), (278, 11, 30, 11, 2), (279, 11, 37, 11, 3), (280, 11, 46, 11, 4), (281, 11, 53, 11, 5), (282, 11, 57, 11, 6), (283, 11, 107, 11, 7), (284, 11, 63, 11, 8), (285, 11, 169, 11, 9), (286, 11, 69, 11, 10), (287, 11, 178, 11, 11), (288, 11, 75, 11, 12), (289, 11, 123, 11, 13), (290, 11, 79, 11, 14), (291, 11, 272, 11, 15), (292, 11, 241, 11, 16), (428, 3, 9, 3, 0), (433, 3, 15, 3, 1), (435, 3, 18, 3, 2), (437, 3, 21, 3, 3), (440, 3, 24, 3, 4), (441, 3, 27, 3, 5), (444, 3, 35, 3, 6), (538, 1, 7, 1, 0), (542, 1, 13, 1, 1), (563, 5, 7, 5, 0), (567, 5, 13, 5, 1), (570, 5, 16, 5, 2), (801, 10, 7, 10, 0), (803, 10, 13, 10, 1), (806, 10, 17, 10, 2), (808, 10, 27, 10, 3), (810, 10, 35, 10, 4), (812, 10, 40, 10, 5), (814, 10, 47, 10, 6), (945, 12, 7, 12, 0), (946, 12, 13, 12, 1), (947, 12, 17, 12, 2), (948, 12, 108, 12, 3), (949, 12, 117, 12, 4), (950, 12, 20, 12, 5), (951, 12, 23, 12, 6), (952, 12, 26, 12, 7), (953, 12, 29, 12, 8), (954, 12, 32, 12, 9), (955, 12, 35, 12, 10), (956, 12, 194, 12, 11), (957, 12, 38, 12, 12), (958, 12, 41, 12, 13), (959, 12, 44, 12, 14), (960, 12, 191, 12, 15), (961, 12, 47, 12, 16), (962, 12, 50, 12, 17), (963, 12, 53, 12, 18), (964, 12, 111, 12, 19), (965, 12, 56, 12, 20), (966, 12, 59, 12, 21), (967, 12, 62, 12, 22), (968, 12, 114, 12, 23), (969, 12, 65, 12, 24), (970, 12, 68, 12, 25), (971, 12, 71, 12, 26), (972, 12, 74, 12, 27), (973, 12, 250, 12, 28), (974, 12, 77, 12, 29), (975, 12, 227, 12, 30), (976, 12, 221, 12, 31), (977, 12, 80, 12, 32), (978, 12, 146, 12, 33), (979, 12, 140, 12, 34), (980, 12, 171, 12, 35), (981, 12, 164, 12, 36), (982, 12, 209, 12, 37), (983, 12, 84, 12, 38)]
def pm_fn : List (Nat × Nat × Nat × Nat × Nat) := [(167, 2, 131, 6, 4), (169, 2, 88, 6, 5), (170, 11, 207, 6, 5), (172, 2, 84, 6, 6), (193, 10, 31, 2, 5), (238, 11, 269, 0, 4), (240, 11, 259, 0, 5), (429, 6, 58, 3, 0), (430, 4, 44, 3, 0), (431, 0, 140, 3, 0), (432, 11, 263, 3, 0), (434, 4, 73, 3, 1), (436, 4, 47, 3, 2), (438, 2, 95, 3, 3), (439, 0, 132, 3, 3), (442, 0, 96, 3, 5), (443, 6, 86, 3, 5), (445, 4, 84, 3, 6), (539, 2, 51, 1, 0), (540, 0, 81, 1, 0), (541, 11, 288, 1, 0), (543, 0, 56, 1, 1), (544, 2, 68, 1, 1), (564, 2, 38, 5, 0), (565, 0, 76, 5, 0), (566, 11, 214, 5, 0), (568, 2, 61, 5, 1), (569, 11, 217, 5, 1), (571, 2, 48, 5, 2), (802, 0, 72, 10, 0), (804, 0, 52, 10, 1), (805, 11, 247, 10, 1), (807, 0, 115, 10, 2), (809, 0, 37, 10, 3), (811, 0, 92, 10, 4), (813, 0, 101, 10, 5), (815, 0, 49, 10, 6)]
def pm_mk : List (Nat × Nat × Nat × Nat) := [(90, 13, 9, 90), (98, 11, 9, 77), (102, 9, 22, 78), (118, 11, 18, 32), (152, 11, 27, 14), (158, 2, 21, 52), (229, 11, 43, 1), (328, 13, 13, 91), (332, 11, 82, 82), (336, 9, 26, 81), (340, 11, 86, 80), (344, 11, 90, 35), (348, 4, 32, 81), (350, 13, 18, 92), (354, 11, 94, 83), (358, 11, 97, 87), (362, 13, 23, 93), (366, 11, 101, 88), (370, 9, 33, 87), (371, 13, 27, 94), (375, 11, 104, 84), (379, 9, 30, 83), (380, 13, 31, 95), (384, 13, 36, 96), (388, 11, 111, 99), (392, 11, 115, 100), (396, 11, 157, 101), (400, 11, 160, 85), (404, 11, 119, 64), (410, 11, 128, 33), (414, 11, 129, 102), (421, 11, 133, 25), (425, 3, 31, 26), (461, 11, 136, 38), (465, 4, 91, 39), (469, 4, 76, 87), (470, 4, 95, 31), (474, 3, 38, 27), (478, 3, 42, 29), (482, 11, 140, 34), (486, 11, 144, 36), (490, 4, 40, 34), (491, 4, 54, 27), (492, 4, 60, 28), (496, 4, 66, 29), (497, 4, 69, 79), (501, 4, 80, 37), (505, 4, 87, 50), (508, 13, 41, 97), (512, 11, 147, 81), (513, 11, 150, 40), (517, 4, 99, 49), (521, 13, 45, 98), (525, 11, 154, 41), (529, 13, 49, 103), (534, 11, 172, 13), (550, 13, 53, 104), (554, 11, 175, 111), (559, 11, 181, 51), (579, 13, 58, 105), (583, 11, 184, 109), (587, 11, 187, 110), (591, 11, 190, 15), (595, 2, 44, 21), (599, 2, 114, 86), (603, 2, 57, 53), (607, 6, 38, 87), (608, 6, 44, 42), (612, 6, 50, 58), (616, 6, 70, 33), (617, 6, 74, 50), (618, 6, 78, 45), (622, 6, 82, 59), (626, 6, 89, 29), (627, 6, 93, 57), (631, 6, 96, 30), (635, 6, 100, 88), (636, 6, 54, 60), (640, 6, 103, 61), (644, 6, 107, 62), (651, 2, 64, 22), (655, 2, 74, 88), (656, 2, 118, 41), (657, 2, 122, 43), (661, 4, 103, 42), (662, 2, 125, 24), (666, 2, 135, 27), (667, 2, 142, 56), (671, 6, 67, 47), (675, 2, 145, 55), (679, 6, 63, 46), (683, 2, 128, 23), (687, 2, 139, 28), (688, 2, 71, 18), (692, 2, 91, 16), (696, 2, 80, 54), (700, 13, 62, 106), (704, 11, 194, 112), (708, 11, 220, 43), (709, 11, 198, 19), (713, 11, 202, 54), (714, 13, 66, 107), (718, 13, 70, 108), (722, 11, 210, 20), (726, 2, 98, 42), (727, 2, 104, 190), (733, 2, 110, 48), (737, 13, 74, 113), (741, 11, 223, 66), (745, 13, 78, 114), (749, 13, 82, 115), (753, 11, 225, 65), (757, 11, 228, 67), (761, 7, 25, 65), (762, 11, 231, 68), (766, 13, 86, 116), (770, 11, 234, 69), (774, 7, 29, 71), (778, 13, 90, 117), (782, 11, 237, 124), (786, 11, 285, 125), (791, 11, 244, 89), (795, 10, 21, 16), (796, 10, 36, 17), (800, 10, 43, 18), (831, 13, 94, 118), (835, 13, 98, 119), (839, 11, 251, 126), (843, 11, 255, 2), (847, 0, 31, 64), (848, 0, 42, 3), (852, 0, 84, 12), (856, 0, 156, 66), (857, 0, 61, 11), (861, 0, 143, 68), (862, 0, 46, 4), (866, 0, 88, 5), (870, 0, 118, 67), (871, 0, 122, 44), (875, 0, 104, 6), (879, 0, 108, 7), (883, 0, 128, 70), (887, 0, 112, 8), (891, 0, 133, 9), (895, 0, 146, 29), (896, 0, 150, 10), (900, 0, 153, 69), (901, 0, 136, 41), (902, 0, 68, 72), (909, 11, 266, 74), (913, 13, 102, 120), (917, 13, 106, 121), (921, 11, 275, 75), (925, 13, 110, 122), (929, 11, 278, 79), (930, 13, 114, 123), (934, 11, 279, 72), (935, 11, 282, 76), (941, 13, 12, 127), (1064, 13, 17, 134), (1068, 12, 99, 130), (1072, 12, 91, 129), (1076, 12, 87, 128), (1079, 13, 22, 135), (1083, 12, 102, 131), (1087, 12, 95, 132), (1091, 13, 26, 136), (1095, 12, 105, 133), (1099, 13, 30, 137), (1103, 13, 35, 138), (1107, 13, 40, 142), (1111, 12, 120, 141), (1115, 13, 44, 144), (1119, 12, 127, 143), (1123, 12, 124, 140), (1127, 13, 48, 146), (1131, 12, 133, 145), (1135, 12, 130, 139), (1139, 13, 52, 162), (1143, 13, 57, 163), (1147, 13, 61, 164), (1151, 12, 197, 160), (1155, 12, 200, 161), (1159, 12, 203, 159), (1163, 12, 185, 157), (1167, 12, 175, 155), (1171, 12, 156, 150), (1175, 12, 143, 151), (1179, 12, 149, 148), (1183, 12, 136, 147), (1187, 12, 153, 149), (1191, 12, 160, 153), (1195, 12, 167, 152), (1199, 12, 178, 156), (1203, 12, 181, 154), (1207, 12, 188, 158), (1211, 13, 65, 166), (1215, 12, 206, 165), (1219, 13, 69, 167), (1223, 13, 73, 168), (1227, 13, 77, 171), (1231, 12, 212, 169), (1235, 13, 81, 172), (1239, 13, 85, 173), (1243, 12, 215, 170), (1247, 13, 89, 174), (1251, 13, 93, 176), (1255, 12, 218, 175), (1259, 13, 97, 177), (1263, 13, 101, 185), (1267, 12, 230, 184), (1271, 12, 224, 178), (1275, 12, 233, 183), (1279, 12, 236, 179), (1283, 12, 240, 180), (1287, 12, 243, 181), (1291, 12, 246, 182), (1295, 13, 105, 186), (1299, 13, 109, 187), (1303, 13, 113, 188), (1307, 13, 117, 189)]
def pm_mn : List (Nat × Nat × Nat × Nat) := [(210, 11, 36, 63), (256, 11, 52, 73)]
def pm_mo : List (Nat × Nat × Nat) := [(93, 11, 1), (101, 9, 3), (121, 4, 3), (155, 2, 3), (161, 6, 3), (213, 7, 3), (232, 0, 3), (259, 8, 3), (424, 3, 3), (537, 1, 1), (562, 5, 1), (794, 10, 1), (944, 12, 1)]
def pm_mx : List (Nat × Nat × Nat) := [(648, 6, 111)]
def pm_my : List (Nat × Nat × Nat) := [(906, 7, 33)]
def pm_mc : List (Nat × Nat × Nat) := [(418, 11, 163)]
def pm_nw : List (Nat × Nat × Nat × Nat × Nat × Nat) := [(88, 13, 7, 11, 89, 72), (96, 11, 7, 9, 97, 73), (116, 11, 16, 4, 117, 74), (122, 4, 9, 3, 409, 81), (150, 11, 25, 2, 151, 75), (156, 2, 19, 6, 157, 76), (208, 11, 34, 7, 209, 77), (227, 11, 41, 0, 228, 78), (254, 11, 50, 8, 255, 79), (270, 11, 61, 1, 533, 83), (272, 11, 67, 5, 558, 84), (274, 11, 73, 10, 790, 87), (408, 11, 126, 3, 409, 81), (939, 13, 10, 12, 940, 80)]
def pm_nq : List (Nat × Nat × Nat × Nat × Nat) := [(122, 4, 9, 3, 123), (270, 11, 61, 1, 271), (272, 11, 67, 5, 273), (274, 11, 73, 10, 275), (408, 11, 126, 3, 123)]
def pm_kl : List (Nat × Nat × Nat × Int64) := [(349, 4, 38, (-1)), (730, 14, 314, (6148914691236517205)), (731, 14, 316, (3689348814741910323)), (732, 14, 318, (1085102592571150095))]
def pm_ys : List (Nat × Nat × Nat × Nat × Nat) := [(1, 231, 230, 0, 78), (2, 846, 844, 845, 78), (3, 851, 850, 25, 78), (4, 865, 864, 28, 78), (5, 869, 868, 29, 78), (6, 878, 877, 30, 78), (7, 882, 881, 31, 78), (8, 890, 889, 32, 78), (9, 894, 893, 33, 78), (10, 899, 898, 34, 78), (11, 860, 859, 27, 78), (12, 855, 854, 26, 78), (13, 536, 535, 0, 83), (14, 154, 153, 0, 75), (15, 594, 592, 593, 75), (16, 695, 693, 694, 75), (17, 799, 797, 798, 75), (18, 691, 689, 690, 75), (19, 712, 710, 711, 75), (20, 725, 723, 724, 75), (21, 598, 597, 10, 75), (22, 654, 653, 17, 75), (23, 686, 685, 19, 75), (24, 665, 664, 18, 75), (25, 423, 422, 0, 81), (26, 427, 426, 0, 81), (27, 477, 475, 476, 81), (28, 495, 493, 494, 81), (29, 481, 479, 480, 81), (30, 634, 632, 633, 81), (31, 473, 471, 472, 81), (32, 120, 119, 0, 74), (33, 413, 411, 412, 74), (34, 485, 483, 484, 74), (35, 347, 345, 346, 74), (36, 489, 487, 488, 74), (37, 504, 503, 5, 74), (38, 464, 462, 463, 74), (39, 468, 467, 4, 74), (40, 516, 514, 515, 74), (41, 528, 526, 527, 74), (42, 611, 609, 610, 74), (43, 660, 658, 659, 74), (44, 874, 872, 873, 74), (45, 621, 619, 620, 74), (46, 682, 680, 681, 74), (47, 674, 672, 673, 74), (48, 736, 734, 735, 74), (49, 520, 519, 6, 74), (50, 507, 506, 0, 74), (51, 561, 560, 0, 84), (52, 160, 159, 0, 76), (53, 606, 604, 605, 76), (54, 699, 697, 698, 76), (55, 678, 676, 677, 76), (56, 670, 668, 669, 76), (57, 630, 629, 13, 76), (58, 615, 614, 11, 76), (59, 625, 624, 12, 76), (60, 639, 638, 14, 76), (61, 643, 642, 15, 76), (62, 647, 646, 16, 76), (63, 212, 211, 0, 77), (64, 407, 405, 406, 77), (65, 756, 754, 755, 77), (66, 744, 742, 743, 77), (67, 760, 758, 759, 77), (68, 765, 763, 764, 77), (69, 773, 771, 772, 77), (70, 886, 884, 885, 77), (71, 777, 776, 21, 77), (72, 905, 903, 904, 77), (73, 258, 257, 0, 79), (74, 912, 910, 911, 79), (75, 924, 922, 923, 79), (76, 938, 936, 937, 79), (77, 100, 99, 0, 73), (78, 104, 103, 0, 73), (79, 500, 498, 499, 73), (80, 343, 341, 342, 73), (81, 339, 337, 338, 73), (82, 335, 333, 334, 73), (83, 357, 355, 356, 73), (84, 378, 376, 377, 73), (85, 403, 401, 402, 73), (86, 602, 600, 601, 73), (87, 361, 359, 360, 73), (88, 369, 367, 368, 73), (89, 793, 792, 0, 87), (90, 92, 91, 0, 72), (91, 331, 329, 330, 72), (92, 353, 351, 352, 72), (93, 365, 363, 364, 72), (94, 374, 372, 373, 72), (95, 383, 381, 382, 72), (96, 387, 385, 386, 72), (97, 511, 509, 510, 72), (98, 524, 522, 523, 72), (99, 391, 390, 0, 72), (100, 395, 394, 1, 72), (101, 399, 398, 2, 72), (102, 417, 416, 3, 72), (103, 532, 530, 531, 72), (104, 553, 551, 552, 72), (105, 582, 580, 581, 72), (106, 703, 701, 702, 72), (107, 717, 715, 716, 72), (108, 721, 719, 720, 72), (109, 586, 585, 8, 72), (110, 590, 589, 9, 72), (111, 557, 556, 7, 72), (112, 707, 706, 20, 72), (113, 740, 738, 739, 72), (114, 748, 746, 747, 72), (115, 752, 750, 751, 72), (116, 769, 767, 768, 72), (117, 781, 779, 780, 72), (118, 834, 832, 833, 72), (119, 838, 836, 837, 72), (120, 916, 914, 915, 72), (121, 920, 918, 919, 72), (122, 928, 926, 927, 72), (123, 933, 931, 932, 72), (124, 785, 784, 22, 72), (125, 789, 788, 23, 72), (126, 842, 841, 24, 72), (127, 943, 942, 0, 80), (128, 1078, 1077, 0, 80), (129, 1075, 1074, 36, 80), (130, 1071, 1070, 35, 80), (131, 1086, 1085, 37, 80), (132, 1090, 1089, 38, 80), (133, 1098, 1097, 39, 80), (134, 1067, 1065, 1066, 80), (135, 1082, 1080, 1081, 80), (136, 1094, 1092, 1093, 80), (137, 1102, 1100, 1101, 80), (138, 1106, 1104, 1105, 80), (139, 1138, 1137, 44, 80), (140, 1126, 1125, 42, 80), (141, 1114, 1113, 40, 80), (142, 1110, 1108, 1109, 80), (143, 1122, 1121, 41, 80), (144, 1118, 1116, 1117, 80), (145, 1134, 1133, 43, 80), (146, 1130, 1128, 1129, 80), (147, 1186, 1185, 53, 80), (148, 1182, 1181, 52, 80), (149, 1190, 1189, 54, 80), (150, 1174, 1173, 50, 80), (151, 1178, 1177, 51, 80), (152, 1198, 1197, 56, 80), (153, 1194, 1193, 55, 80), (154, 1206, 1205, 58, 80), (155, 1170, 1169, 49, 80), (156, 1202, 1201, 57, 80), (157, 1166, 1165, 48, 80), (158, 1210, 1209, 59, 80), (159, 1162, 1161, 47, 80), (160, 1154, 1153, 45, 80), (161, 1158, 1157, 46, 80), (162, 1142, 1140, 1141, 80), (163, 1146, 1144, 1145, 80), (164, 1150, 1148, 1149, 80), (165, 1218, 1217, 60, 80), (166, 1214, 1212, 1213, 80), (167, 1222, 1220, 1221, 80), (168, 1226, 1224, 1225, 80), (169, 1234, 1233, 61, 80), (170, 1246, 1245, 62, 80), (171, 1230, 1228, 1229, 80), (172, 1238, 1236, 1237, 80), (173, 1242, 1240, 1241, 80), (174, 1250, 1248, 1249, 80), (175, 1258, 1257, 63, 80), (176, 1254, 1252, 1253, 80), (177, 1262, 1260, 1261, 80), (178, 1274, 1273, 65, 80), (179, 1282, 1281, 67, 80), (180, 1286, 1285, 68, 80), (181, 1290, 1289, 69, 80), (182, 1294, 1293, 70, 80), (183, 1278, 1277, 66, 80), (184, 1270, 1269, 64, 80), (185, 1266, 1264, 1265, 80), (186, 1298, 1296, 1297, 80), (187, 1302, 1300, 1301, 80), (188, 1306, 1304, 1305, 80), (189, 1310, 1308, 1309, 80), (190, 729, 728, 0, 86)]
def pm_tgs : List Nat := [0, 1, 2, 4, 6, 8, 13]
def pm_aos : List String := [RX1, RX3, RX5, RX10]
def pm_host : String := "ReferenceRules"
def pm_tbl : List Cond := lw_tbl.filter goodWord
/-- the words on members of nest mates, and on arrays of objects: they are no 'good' words, and are carried beside them -/
def pm_isN (w : Cond) : Bool := match w with
  | .fieldLinkNest _ _ _ _ _ _ => true
  | .methodLinkNest _ _ _ _ => true
  | _ => false
def pm_nst : List Cond := lw_tbl.filter pm_isN
theorem pm_in_tbl {w : Cond} {p : Nat} (h : lw_tbl[p]? = some w) (g : goodWord w = true) : w ∈ pm_tbl := List.mem_filter.mpr ⟨List.mem_of_getElem? h, g⟩
theorem pm_in_nst {w : Cond} {p : Nat} (h : lw_tbl[p]? = some w) (g : pm_isN w = true) : w ∈ pm_nst := List.mem_filter.mpr ⟨List.mem_of_getElem? h, g⟩
theorem pm_tbl_good : GoodIn pm_tbl pm_tbl := fun w h => ⟨h, good_of_word (List.mem_filter.mp h).2⟩
noncomputable def ntG {α : Type} (l : List α) : Nat → Option α := List.rec (motive := fun _ => Nat → Option α) (fun _ => none) (fun b _ ih n => Nat.rec (motive := fun _ => Option α) (some b) (fun m _ => ih m) n) l
theorem ntG_e {α : Type} (l : List α) : ∀ n : Nat, ntG l n = l[n]? := by
  induction l with
  | nil => intro n; rfl
  | cons b l ih =>
    intro n
    cases n with
    | zero => rfl
    | succ m => exact ih m
noncomputable def pm_has (p : Nat) (w : Cond) : Bool := decide (ntG lw_tbl p = some w) && goodWord w
theorem pm_has_in {p : Nat} {w : Cond} (h : pm_has p w = true) : w ∈ pm_tbl := by
  unfold pm_has at h
  rw [Bool.and_eq_true] at h
  exact pm_in_tbl ((ntG_e lw_tbl p).symm.trans (of_decide_eq_true h.1)) h.2
def pm_len (i : Instr) : Nat := match i with
  | .bipush _ => 2
  | .aload _ => 2
  | .iload _ => 2
  | .lload _ => 2
  | .istore _ => 2
  | .astore _ => 2
  | .lstore _ => 2
  | .newarray _ => 2
  | .sipush _ => 3
  | .ldc2_w _ => 3
  | .iinc _ _ => 3
  | .ifCond _ _ => 3
  | .if_icmp _ _ => 3
  | .ifnull _ => 3
  | .ifnonnull _ => 3
  | .goto _ => 3
  | .getfield _ => 3
  | .putfield _ => 3
  | .anewarray _ => 3
  | .new _ => 3
  | .invokevirtual _ => 3
  | .invokespecial _ => 3
  | .invokestatic _ => 3
  | _ => 1
def pm_fit (y z : Nat) : Bool := Nat.ble (pm_bd z + 1) (pm_bd y) && (Nat.ble (8 + (pm_ml z + 11) + pm_bl z) (pm_bl y) && pm_ys.any (fun e => Nat.beq e.1 z))
def pm_lnk (y pc : Nat) (i : Instr) (a b : Nat) : Bool := match i with
  | .getfield ix => pm_fl.any (fun e => decide (e.2 = (pm_oc y, ix, a, b))) || pm_fn.any (fun e => decide (e.2 = (pm_oc y, ix, a, b)))
  | .putfield ix => (pm_fl.any (fun e => decide (e.2 = (pm_oc y, ix, a, b))) && (!(pm_T a b).2.2.2 || (Nat.beq (pm_kd y) 1 && Nat.beq a (pm_oc y)))) || (pm_fn.any (fun e => decide (e.2 = (pm_oc y, ix, a, b))) && !(pm_T a b).2.2.2)
  | .invokevirtual ix => pm_mk.any (fun e => decide (e.2 = (pm_oc y, ix, b))) && (Nat.beq (pm_kd b) 0 && pm_fit y b)
  | .invokespecial ix => (Nat.beq a 5 && (pm_mo.any (fun e => decide (e.2 = (pm_oc y, ix))) && (Nat.ble 1 (pm_bd y) && Nat.ble 20 (pm_bl y)))) || ((Nat.beq a 1 && (pm_mk.any (fun e => decide (e.2 = (pm_oc y, ix, b))) && (Nat.beq (pm_kd b) 1 && pm_fit y b))) || (Nat.beq a 3 && (pm_mn.any (fun e => decide (e.2 = (pm_oc y, ix, b))) && (Nat.beq (pm_kd b) 1 && pm_fit y b))))
  | .invokestatic ix => (Nat.beq a 6 && (pm_mx.any (fun e => decide (e.2 = (pm_oc y, ix))) && (Nat.ble 1 (pm_bd y) && Nat.ble 21 (pm_bl y)))) || ((Nat.beq a 7 && (pm_my.any (fun e => decide (e.2 = (pm_oc y, ix))) && (Nat.ble 1 (pm_bd y) && Nat.ble 21 (pm_bl y)))) || ((Nat.beq a 8 && (pm_mc.any (fun e => decide (e.2 = (pm_oc y, ix))) && (Nat.ble 1 (pm_bd y) && Nat.ble (8 + (nativeFrameWords "java/lang/System" "arraycopy" 5 + 11)) (pm_bl y)))) || (Nat.beq a 2 && (pm_mk.any (fun e => decide (e.2 = (pm_oc y, ix, b))) && (Nat.beq (pm_kd b) 2 && pm_fit y b)))))
  | .new ix => pm_nw.any (fun e => decide (e.2.1 = pm_oc y) && (decide (e.2.2.1 = ix) && decide (e.2.2.2.1 = a)))
  | .anewarray ix => pm_nq.any (fun e => decide (e.2.1 = pm_oc y) && (decide (e.2.2.1 = ix) && decide (e.2.2.2.1 = a)))
  | .ldc2_w ix => decide (ix = a)
  | .ifCond _ off => decide ((pc : Int) + off = (a : Int))
  | .if_icmp _ off => decide ((pc : Int) + off = (a : Int))
  | .ifnull off => decide ((pc : Int) + off = (a : Int))
  | .ifnonnull off => decide ((pc : Int) + off = (a : Int))
  | .goto off => decide ((pc : Int) + off = (a : Int))
  | .tableswitch d lo hi offs => decide (0 ≤ (pc : Int) + d) && (decide ((offs.size : Int) = hi - lo + 1) && offs.toList.all (fun o => decide (0 ≤ (pc : Int) + o)))
  | _ => true
def pm_dec (i : Instr) (a : Nat) : Instr × Nat := match i with
  | .tableswitch _ _ _ _ => (i, a)
  | _ => (i, pm_len i)
def pm_chk (y pc : Nat) (cc : ByteArray) (r : Option (Instr × Nat × Nat)) : Bool := match r with
  | none => true
  | some (i, a, b) => decide (decode cc pc = .ok (pm_dec i a)) && pm_lnk y pc i a b
set_option maxRecDepth 100000 in
set_option maxHeartbeats 4000000 in
theorem pm_fl_ok : pm_fl.all (fun e => pm_has e.1 (.fieldLink (pm_cn e.2.1) e.2.2.1 (pm_T e.2.2.2.1 e.2.2.2.2).1 (pm_T e.2.2.2.1 e.2.2.2.2).2.1 (pm_T e.2.2.2.1 e.2.2.2.2).2.2.1) && (Nat.blt e.2.2.2.1 13 && Nat.blt e.2.2.2.2 (pm_nf e.2.2.2.1))) = true := by decide +kernel
theorem pm_fn_ok : pm_fn.all (fun e => decide (lw_tbl[e.1]? = some (.fieldLinkNest (pm_cn e.2.1) e.2.2.1 (pm_T e.2.2.2.1 e.2.2.2.2).1 (pm_T e.2.2.2.1 e.2.2.2.2).2.1 (pm_T e.2.2.2.1 e.2.2.2.2).2.2.1 pm_host)) && (Nat.blt e.2.2.2.1 13 && Nat.blt e.2.2.2.2 (pm_nf e.2.2.2.1))) = true := by decide +kernel
theorem pm_mk_ok : pm_mk.all (fun e => pm_has e.1 (.methodLink (pm_cn e.2.1) e.2.2.1 (pm_nm e.2.2.2))) = true := by decide +kernel
theorem pm_mn_ok : pm_mn.all (fun e => decide (lw_tbl[e.1]? = some (.methodLinkNest (pm_cn e.2.1) e.2.2.1 (pm_nm e.2.2.2) pm_host))) = true := by decide +kernel
theorem pm_mo_ok : pm_mo.all (fun e => pm_has e.1 (.methodLink (pm_cn e.2.1) e.2.2 objectInit)) = true := by decide +kernel
theorem pm_mx_ok : pm_mx.all (fun e => pm_has e.1 (.methodLink (pm_cn e.2.1) e.2.2 Lib.Math.max.name)) = true := by decide +kernel
theorem pm_my_ok : pm_my.all (fun e => pm_has e.1 (.methodLink (pm_cn e.2.1) e.2.2 Lib.Math.min.name)) = true := by decide +kernel
theorem pm_mc_ok : pm_mc.all (fun e => pm_has e.1 (.methodLink (pm_cn e.2.1) e.2.2 arraycopyName)) = true := by decide +kernel
theorem pm_nw_ok : pm_nw.all (fun e => pm_has e.1 (.classLink (pm_cn e.2.1) e.2.2.1 (pm_cn e.2.2.2.1)) && (pm_has e.2.2.2.2.1 (.instantiable (pm_cn e.2.2.2.1) (pm_nf e.2.2.2.1)) && (pm_has e.2.2.2.2.2 (.initialized (pm_cn e.2.2.2.1)) && Nat.blt e.2.2.2.1 13))) = true := by decide +kernel
theorem pm_nq_ok : pm_nq.all (fun e => pm_has e.1 (.classLink (pm_cn e.2.1) e.2.2.1 (pm_cn e.2.2.2.1)) && (pm_aos.contains (pm_cn e.2.2.2.1) && (pm_tgs.contains (e.2.2.2.1 + 3)))) = true := by decide +kernel
theorem pm_kl_ok : pm_kl.all (fun e => pm_has e.1 (.constantLong (pm_cn e.2.1) e.2.2.1 e.2.2.2)) = true := by decide +kernel
theorem pm_ys_ok : pm_ys.all (fun e => (pm_has e.2.2.2.2 (.initialized (pm_nm e.1).cls) && (match pm_kd e.1 with
  | 0 => pm_has e.2.2.1 (.instanceMethod (pm_nm e.1)) && pm_has e.2.2.2.1 (.selects (pm_nm e.1).cls (pm_nm e.1) (pm_nm e.1)) && decide ((pm_cls[pm_oc e.1]?).map (fun q => q.1) = some (pm_nm e.1).cls)
  | 1 => pm_has e.2.2.1 (.instanceMethod (pm_nm e.1)) && (decide ((pm_nm e.1).name = "<init>") && decide (pm_rty e.1 = none))
  | _ => pm_has e.2.2.1 (.static (pm_nm e.1))))) = true := by decide +kernel
theorem pm_ys_ok2 : pm_ys.all (fun e => decide ((pm_nm e.1).cls = pm_cn (pm_oc e.1)) && (plainName (pm_nm e.1).cls && (decide ((pm_nm e.1).cls ≠ "java/lang/invoke/MethodHandle" ∧ (pm_nm e.1).cls ≠ "java/lang/invoke/VarHandle") && decide ((parseMethodDescriptor (pm_nm e.1).desc).map (fun d => d.parameters.length) = some (pm_na e.1))))) = true := by decide +kernel
set_option maxRecDepth 100000 in
set_option maxHeartbeats 4000000 in
theorem pm_obj_ok : (pm_has 94 (.instanceMethod objectInit) && pm_has 95 (.code objectInit ⟨#[0xb1]⟩ 1 none)) = true := by decide +kernel
set_option maxRecDepth 100000 in
set_option maxHeartbeats 4000000 in
theorem pm_mth_ok : (pm_has 649 (.static Lib.Math.max.name) && pm_has 650 (.code Lib.Math.max.name Lib.Math.max.code 2 (some .int)) && pm_has 907 (.static Lib.Math.min.name) && pm_has 908 (.code Lib.Math.min.name Lib.Math.min.code 2 (some .int)) && pm_has 85 (.initialized "java/lang/Math")) = true := by decide +kernel
set_option maxRecDepth 100000 in
set_option maxHeartbeats 4000000 in
theorem pm_cpy_ok : (pm_has 420 (.native arraycopyName) && pm_has 419 (.static arraycopyName) && pm_has 82 (.initialized "java/lang/System")) = true := by decide +kernel
set_option maxRecDepth 100000 in
set_option maxHeartbeats 4000000 in
theorem pm_arr_ok : (pm_has 115 (.arrayClass .int) && pm_has 149 (.arrayClass .long) && pm_has 1063 (.arrayClass .boolean)) = true := by decide +kernel
set_option maxRecDepth 100000 in
set_option maxHeartbeats 4000000 in
theorem hc_1 : lw_tbl[231]? = some (Cond.code (pm_nm 1) (pm_by 1) (pm_ml 1) (pm_rty 1)) := (ntG_e lw_tbl 231).symm.trans rfl
set_option maxRecDepth 100000 in
set_option maxHeartbeats 4000000 in
theorem hc_2 : lw_tbl[846]? = some (Cond.code (pm_nm 2) (pm_by 2) (pm_ml 2) (pm_rty 2)) := (ntG_e lw_tbl 846).symm.trans rfl
set_option maxRecDepth 100000 in
set_option maxHeartbeats 4000000 in
theorem hc_3 : lw_tbl[851]? = some (Cond.code (pm_nm 3) (pm_by 3) (pm_ml 3) (pm_rty 3)) := (ntG_e lw_tbl 851).symm.trans rfl
set_option maxRecDepth 100000 in
set_option maxHeartbeats 4000000 in
theorem hc_4 : lw_tbl[865]? = some (Cond.code (pm_nm 4) (pm_by 4) (pm_ml 4) (pm_rty 4)) := (ntG_e lw_tbl 865).symm.trans rfl
set_option maxRecDepth 100000 in
set_option maxHeartbeats 4000000 in
theorem hc_5 : lw_tbl[869]? = some (Cond.code (pm_nm 5) (pm_by 5) (pm_ml 5) (pm_rty 5)) := (ntG_e lw_tbl 869).symm.trans rfl
set_option maxRecDepth 100000 in
set_option maxHeartbeats 4000000 in
theorem hc_6 : lw_tbl[878]? = some (Cond.code (pm_nm 6) (pm_by 6) (pm_ml 6) (pm_rty 6)) := (ntG_e lw_tbl 878).symm.trans rfl
set_option maxRecDepth 100000 in
set_option maxHeartbeats 4000000 in
theorem hc_7 : lw_tbl[882]? = some (Cond.code (pm_nm 7) (pm_by 7) (pm_ml 7) (pm_rty 7)) := (ntG_e lw_tbl 882).symm.trans rfl
set_option maxRecDepth 100000 in
set_option maxHeartbeats 4000000 in
theorem hc_8 : lw_tbl[890]? = some (Cond.code (pm_nm 8) (pm_by 8) (pm_ml 8) (pm_rty 8)) := (ntG_e lw_tbl 890).symm.trans rfl
set_option maxRecDepth 100000 in
set_option maxHeartbeats 4000000 in
theorem hc_9 : lw_tbl[894]? = some (Cond.code (pm_nm 9) (pm_by 9) (pm_ml 9) (pm_rty 9)) := (ntG_e lw_tbl 894).symm.trans rfl
set_option maxRecDepth 100000 in
set_option maxHeartbeats 4000000 in
theorem hc_10 : lw_tbl[899]? = some (Cond.code (pm_nm 10) (pm_by 10) (pm_ml 10) (pm_rty 10)) := (ntG_e lw_tbl 899).symm.trans rfl
set_option maxRecDepth 100000 in
set_option maxHeartbeats 4000000 in
theorem hc_11 : lw_tbl[860]? = some (Cond.code (pm_nm 11) (pm_by 11) (pm_ml 11) (pm_rty 11)) := (ntG_e lw_tbl 860).symm.trans rfl
set_option maxRecDepth 100000 in
set_option maxHeartbeats 4000000 in
theorem hc_12 : lw_tbl[855]? = some (Cond.code (pm_nm 12) (pm_by 12) (pm_ml 12) (pm_rty 12)) := (ntG_e lw_tbl 855).symm.trans rfl
set_option maxRecDepth 100000 in
set_option maxHeartbeats 4000000 in
theorem hc_13 : lw_tbl[536]? = some (Cond.code (pm_nm 13) (pm_by 13) (pm_ml 13) (pm_rty 13)) := (ntG_e lw_tbl 536).symm.trans rfl
set_option maxRecDepth 100000 in
set_option maxHeartbeats 4000000 in
theorem hc_14 : lw_tbl[154]? = some (Cond.code (pm_nm 14) (pm_by 14) (pm_ml 14) (pm_rty 14)) := (ntG_e lw_tbl 154).symm.trans rfl
set_option maxRecDepth 100000 in
set_option maxHeartbeats 4000000 in
theorem hc_15 : lw_tbl[594]? = some (Cond.code (pm_nm 15) (pm_by 15) (pm_ml 15) (pm_rty 15)) := (ntG_e lw_tbl 594).symm.trans rfl
set_option maxRecDepth 100000 in
set_option maxHeartbeats 4000000 in
theorem hc_16 : lw_tbl[695]? = some (Cond.code (pm_nm 16) (pm_by 16) (pm_ml 16) (pm_rty 16)) := (ntG_e lw_tbl 695).symm.trans rfl
set_option maxRecDepth 100000 in
set_option maxHeartbeats 4000000 in
theorem hc_17 : lw_tbl[799]? = some (Cond.code (pm_nm 17) (pm_by 17) (pm_ml 17) (pm_rty 17)) := (ntG_e lw_tbl 799).symm.trans rfl
set_option maxRecDepth 100000 in
set_option maxHeartbeats 4000000 in
theorem hc_18 : lw_tbl[691]? = some (Cond.code (pm_nm 18) (pm_by 18) (pm_ml 18) (pm_rty 18)) := (ntG_e lw_tbl 691).symm.trans rfl
set_option maxRecDepth 100000 in
set_option maxHeartbeats 4000000 in
theorem hc_19 : lw_tbl[712]? = some (Cond.code (pm_nm 19) (pm_by 19) (pm_ml 19) (pm_rty 19)) := (ntG_e lw_tbl 712).symm.trans rfl
set_option maxRecDepth 100000 in
set_option maxHeartbeats 4000000 in
theorem hc_20 : lw_tbl[725]? = some (Cond.code (pm_nm 20) (pm_by 20) (pm_ml 20) (pm_rty 20)) := (ntG_e lw_tbl 725).symm.trans rfl
set_option maxRecDepth 100000 in
set_option maxHeartbeats 4000000 in
theorem hc_21 : lw_tbl[598]? = some (Cond.code (pm_nm 21) (pm_by 21) (pm_ml 21) (pm_rty 21)) := (ntG_e lw_tbl 598).symm.trans rfl
set_option maxRecDepth 100000 in
set_option maxHeartbeats 4000000 in
theorem hc_22 : lw_tbl[654]? = some (Cond.code (pm_nm 22) (pm_by 22) (pm_ml 22) (pm_rty 22)) := (ntG_e lw_tbl 654).symm.trans rfl
set_option maxRecDepth 100000 in
set_option maxHeartbeats 4000000 in
theorem hc_23 : lw_tbl[686]? = some (Cond.code (pm_nm 23) (pm_by 23) (pm_ml 23) (pm_rty 23)) := (ntG_e lw_tbl 686).symm.trans rfl
set_option maxRecDepth 100000 in
set_option maxHeartbeats 4000000 in
theorem hc_24 : lw_tbl[665]? = some (Cond.code (pm_nm 24) (pm_by 24) (pm_ml 24) (pm_rty 24)) := (ntG_e lw_tbl 665).symm.trans rfl
set_option maxRecDepth 100000 in
set_option maxHeartbeats 4000000 in
theorem hc_25 : lw_tbl[423]? = some (Cond.code (pm_nm 25) (pm_by 25) (pm_ml 25) (pm_rty 25)) := (ntG_e lw_tbl 423).symm.trans rfl
set_option maxRecDepth 100000 in
set_option maxHeartbeats 4000000 in
theorem hc_26 : lw_tbl[427]? = some (Cond.code (pm_nm 26) (pm_by 26) (pm_ml 26) (pm_rty 26)) := (ntG_e lw_tbl 427).symm.trans rfl
set_option maxRecDepth 100000 in
set_option maxHeartbeats 4000000 in
theorem hc_27 : lw_tbl[477]? = some (Cond.code (pm_nm 27) (pm_by 27) (pm_ml 27) (pm_rty 27)) := (ntG_e lw_tbl 477).symm.trans rfl
set_option maxRecDepth 100000 in
set_option maxHeartbeats 4000000 in
theorem hc_28 : lw_tbl[495]? = some (Cond.code (pm_nm 28) (pm_by 28) (pm_ml 28) (pm_rty 28)) := (ntG_e lw_tbl 495).symm.trans rfl
set_option maxRecDepth 100000 in
set_option maxHeartbeats 4000000 in
theorem hc_29 : lw_tbl[481]? = some (Cond.code (pm_nm 29) (pm_by 29) (pm_ml 29) (pm_rty 29)) := (ntG_e lw_tbl 481).symm.trans rfl
set_option maxRecDepth 100000 in
set_option maxHeartbeats 4000000 in
theorem hc_30 : lw_tbl[634]? = some (Cond.code (pm_nm 30) (pm_by 30) (pm_ml 30) (pm_rty 30)) := (ntG_e lw_tbl 634).symm.trans rfl
set_option maxRecDepth 100000 in
set_option maxHeartbeats 4000000 in
theorem hc_31 : lw_tbl[473]? = some (Cond.code (pm_nm 31) (pm_by 31) (pm_ml 31) (pm_rty 31)) := (ntG_e lw_tbl 473).symm.trans rfl
set_option maxRecDepth 100000 in
set_option maxHeartbeats 4000000 in
theorem hc_32 : lw_tbl[120]? = some (Cond.code (pm_nm 32) (pm_by 32) (pm_ml 32) (pm_rty 32)) := (ntG_e lw_tbl 120).symm.trans rfl
set_option maxRecDepth 100000 in
set_option maxHeartbeats 4000000 in
theorem hc_33 : lw_tbl[413]? = some (Cond.code (pm_nm 33) (pm_by 33) (pm_ml 33) (pm_rty 33)) := (ntG_e lw_tbl 413).symm.trans rfl
set_option maxRecDepth 100000 in
set_option maxHeartbeats 4000000 in
theorem hc_34 : lw_tbl[485]? = some (Cond.code (pm_nm 34) (pm_by 34) (pm_ml 34) (pm_rty 34)) := (ntG_e lw_tbl 485).symm.trans rfl
set_option maxRecDepth 100000 in
set_option maxHeartbeats 4000000 in
theorem hc_35 : lw_tbl[347]? = some (Cond.code (pm_nm 35) (pm_by 35) (pm_ml 35) (pm_rty 35)) := (ntG_e lw_tbl 347).symm.trans rfl
set_option maxRecDepth 100000 in
set_option maxHeartbeats 4000000 in
theorem hc_36 : lw_tbl[489]? = some (Cond.code (pm_nm 36) (pm_by 36) (pm_ml 36) (pm_rty 36)) := (ntG_e lw_tbl 489).symm.trans rfl
set_option maxRecDepth 100000 in
set_option maxHeartbeats 4000000 in
theorem hc_37 : lw_tbl[504]? = some (Cond.code (pm_nm 37) (pm_by 37) (pm_ml 37) (pm_rty 37)) := (ntG_e lw_tbl 504).symm.trans rfl
set_option maxRecDepth 100000 in
set_option maxHeartbeats 4000000 in
theorem hc_38 : lw_tbl[464]? = some (Cond.code (pm_nm 38) (pm_by 38) (pm_ml 38) (pm_rty 38)) := (ntG_e lw_tbl 464).symm.trans rfl
set_option maxRecDepth 100000 in
set_option maxHeartbeats 4000000 in
theorem hc_39 : lw_tbl[468]? = some (Cond.code (pm_nm 39) (pm_by 39) (pm_ml 39) (pm_rty 39)) := (ntG_e lw_tbl 468).symm.trans rfl
set_option maxRecDepth 100000 in
set_option maxHeartbeats 4000000 in
theorem hc_40 : lw_tbl[516]? = some (Cond.code (pm_nm 40) (pm_by 40) (pm_ml 40) (pm_rty 40)) := (ntG_e lw_tbl 516).symm.trans rfl
set_option maxRecDepth 100000 in
set_option maxHeartbeats 4000000 in
theorem hc_41 : lw_tbl[528]? = some (Cond.code (pm_nm 41) (pm_by 41) (pm_ml 41) (pm_rty 41)) := (ntG_e lw_tbl 528).symm.trans rfl
set_option maxRecDepth 100000 in
set_option maxHeartbeats 4000000 in
theorem hc_42 : lw_tbl[611]? = some (Cond.code (pm_nm 42) (pm_by 42) (pm_ml 42) (pm_rty 42)) := (ntG_e lw_tbl 611).symm.trans rfl
set_option maxRecDepth 100000 in
set_option maxHeartbeats 4000000 in
theorem hc_43 : lw_tbl[660]? = some (Cond.code (pm_nm 43) (pm_by 43) (pm_ml 43) (pm_rty 43)) := (ntG_e lw_tbl 660).symm.trans rfl
set_option maxRecDepth 100000 in
set_option maxHeartbeats 4000000 in
theorem hc_44 : lw_tbl[874]? = some (Cond.code (pm_nm 44) (pm_by 44) (pm_ml 44) (pm_rty 44)) := (ntG_e lw_tbl 874).symm.trans rfl
set_option maxRecDepth 100000 in
set_option maxHeartbeats 4000000 in
theorem hc_45 : lw_tbl[621]? = some (Cond.code (pm_nm 45) (pm_by 45) (pm_ml 45) (pm_rty 45)) := (ntG_e lw_tbl 621).symm.trans rfl
set_option maxRecDepth 100000 in
set_option maxHeartbeats 4000000 in
theorem hc_46 : lw_tbl[682]? = some (Cond.code (pm_nm 46) (pm_by 46) (pm_ml 46) (pm_rty 46)) := (ntG_e lw_tbl 682).symm.trans rfl
set_option maxRecDepth 100000 in
set_option maxHeartbeats 4000000 in
theorem hc_47 : lw_tbl[674]? = some (Cond.code (pm_nm 47) (pm_by 47) (pm_ml 47) (pm_rty 47)) := (ntG_e lw_tbl 674).symm.trans rfl
set_option maxRecDepth 100000 in
set_option maxHeartbeats 4000000 in
theorem hc_48 : lw_tbl[736]? = some (Cond.code (pm_nm 48) (pm_by 48) (pm_ml 48) (pm_rty 48)) := (ntG_e lw_tbl 736).symm.trans rfl
set_option maxRecDepth 100000 in
set_option maxHeartbeats 4000000 in
theorem hc_49 : lw_tbl[520]? = some (Cond.code (pm_nm 49) (pm_by 49) (pm_ml 49) (pm_rty 49)) := (ntG_e lw_tbl 520).symm.trans rfl
set_option maxRecDepth 100000 in
set_option maxHeartbeats 4000000 in
theorem hc_50 : lw_tbl[507]? = some (Cond.code (pm_nm 50) (pm_by 50) (pm_ml 50) (pm_rty 50)) := (ntG_e lw_tbl 507).symm.trans rfl
set_option maxRecDepth 100000 in
set_option maxHeartbeats 4000000 in
theorem hc_51 : lw_tbl[561]? = some (Cond.code (pm_nm 51) (pm_by 51) (pm_ml 51) (pm_rty 51)) := (ntG_e lw_tbl 561).symm.trans rfl
set_option maxRecDepth 100000 in
set_option maxHeartbeats 4000000 in
theorem hc_52 : lw_tbl[160]? = some (Cond.code (pm_nm 52) (pm_by 52) (pm_ml 52) (pm_rty 52)) := (ntG_e lw_tbl 160).symm.trans rfl
set_option maxRecDepth 100000 in
set_option maxHeartbeats 4000000 in
theorem hc_53 : lw_tbl[606]? = some (Cond.code (pm_nm 53) (pm_by 53) (pm_ml 53) (pm_rty 53)) := (ntG_e lw_tbl 606).symm.trans rfl
set_option maxRecDepth 100000 in
set_option maxHeartbeats 4000000 in
theorem hc_54 : lw_tbl[699]? = some (Cond.code (pm_nm 54) (pm_by 54) (pm_ml 54) (pm_rty 54)) := (ntG_e lw_tbl 699).symm.trans rfl
set_option maxRecDepth 100000 in
set_option maxHeartbeats 4000000 in
theorem hc_55 : lw_tbl[678]? = some (Cond.code (pm_nm 55) (pm_by 55) (pm_ml 55) (pm_rty 55)) := (ntG_e lw_tbl 678).symm.trans rfl
set_option maxRecDepth 100000 in
set_option maxHeartbeats 4000000 in
theorem hc_56 : lw_tbl[670]? = some (Cond.code (pm_nm 56) (pm_by 56) (pm_ml 56) (pm_rty 56)) := (ntG_e lw_tbl 670).symm.trans rfl
set_option maxRecDepth 100000 in
set_option maxHeartbeats 4000000 in
theorem hc_57 : lw_tbl[630]? = some (Cond.code (pm_nm 57) (pm_by 57) (pm_ml 57) (pm_rty 57)) := (ntG_e lw_tbl 630).symm.trans rfl
set_option maxRecDepth 100000 in
set_option maxHeartbeats 4000000 in
theorem hc_58 : lw_tbl[615]? = some (Cond.code (pm_nm 58) (pm_by 58) (pm_ml 58) (pm_rty 58)) := (ntG_e lw_tbl 615).symm.trans rfl
set_option maxRecDepth 100000 in
set_option maxHeartbeats 4000000 in
theorem hc_59 : lw_tbl[625]? = some (Cond.code (pm_nm 59) (pm_by 59) (pm_ml 59) (pm_rty 59)) := (ntG_e lw_tbl 625).symm.trans rfl
set_option maxRecDepth 100000 in
set_option maxHeartbeats 4000000 in
theorem hc_60 : lw_tbl[639]? = some (Cond.code (pm_nm 60) (pm_by 60) (pm_ml 60) (pm_rty 60)) := (ntG_e lw_tbl 639).symm.trans rfl
set_option maxRecDepth 100000 in
set_option maxHeartbeats 4000000 in
theorem hc_61 : lw_tbl[643]? = some (Cond.code (pm_nm 61) (pm_by 61) (pm_ml 61) (pm_rty 61)) := (ntG_e lw_tbl 643).symm.trans rfl
set_option maxRecDepth 100000 in
set_option maxHeartbeats 4000000 in
theorem hc_62 : lw_tbl[647]? = some (Cond.code (pm_nm 62) (pm_by 62) (pm_ml 62) (pm_rty 62)) := (ntG_e lw_tbl 647).symm.trans rfl
set_option maxRecDepth 100000 in
set_option maxHeartbeats 4000000 in
theorem hc_63 : lw_tbl[212]? = some (Cond.code (pm_nm 63) (pm_by 63) (pm_ml 63) (pm_rty 63)) := (ntG_e lw_tbl 212).symm.trans rfl
set_option maxRecDepth 100000 in
set_option maxHeartbeats 4000000 in
theorem hc_64 : lw_tbl[407]? = some (Cond.code (pm_nm 64) (pm_by 64) (pm_ml 64) (pm_rty 64)) := (ntG_e lw_tbl 407).symm.trans rfl
set_option maxRecDepth 100000 in
set_option maxHeartbeats 4000000 in
theorem hc_65 : lw_tbl[756]? = some (Cond.code (pm_nm 65) (pm_by 65) (pm_ml 65) (pm_rty 65)) := (ntG_e lw_tbl 756).symm.trans rfl
set_option maxRecDepth 100000 in
set_option maxHeartbeats 4000000 in
theorem hc_66 : lw_tbl[744]? = some (Cond.code (pm_nm 66) (pm_by 66) (pm_ml 66) (pm_rty 66)) := (ntG_e lw_tbl 744).symm.trans rfl
set_option maxRecDepth 100000 in
set_option maxHeartbeats 4000000 in
theorem hc_67 : lw_tbl[760]? = some (Cond.code (pm_nm 67) (pm_by 67) (pm_ml 67) (pm_rty 67)) := (ntG_e lw_tbl 760).symm.trans rfl
set_option maxRecDepth 100000 in
set_option maxHeartbeats 4000000 in
theorem hc_68 : lw_tbl[765]? = some (Cond.code (pm_nm 68) (pm_by 68) (pm_ml 68) (pm_rty 68)) := (ntG_e lw_tbl 765).symm.trans rfl
set_option maxRecDepth 100000 in
set_option maxHeartbeats 4000000 in
theorem hc_69 : lw_tbl[773]? = some (Cond.code (pm_nm 69) (pm_by 69) (pm_ml 69) (pm_rty 69)) := (ntG_e lw_tbl 773).symm.trans rfl
set_option maxRecDepth 100000 in
set_option maxHeartbeats 4000000 in
theorem hc_70 : lw_tbl[886]? = some (Cond.code (pm_nm 70) (pm_by 70) (pm_ml 70) (pm_rty 70)) := (ntG_e lw_tbl 886).symm.trans rfl
set_option maxRecDepth 100000 in
set_option maxHeartbeats 4000000 in
theorem hc_71 : lw_tbl[777]? = some (Cond.code (pm_nm 71) (pm_by 71) (pm_ml 71) (pm_rty 71)) := (ntG_e lw_tbl 777).symm.trans rfl
set_option maxRecDepth 100000 in
set_option maxHeartbeats 4000000 in
theorem hc_72 : lw_tbl[905]? = some (Cond.code (pm_nm 72) (pm_by 72) (pm_ml 72) (pm_rty 72)) := (ntG_e lw_tbl 905).symm.trans rfl
set_option maxRecDepth 100000 in
set_option maxHeartbeats 4000000 in
theorem hc_73 : lw_tbl[258]? = some (Cond.code (pm_nm 73) (pm_by 73) (pm_ml 73) (pm_rty 73)) := (ntG_e lw_tbl 258).symm.trans rfl
set_option maxRecDepth 100000 in
set_option maxHeartbeats 4000000 in
theorem hc_74 : lw_tbl[912]? = some (Cond.code (pm_nm 74) (pm_by 74) (pm_ml 74) (pm_rty 74)) := (ntG_e lw_tbl 912).symm.trans rfl
set_option maxRecDepth 100000 in
set_option maxHeartbeats 4000000 in
theorem hc_75 : lw_tbl[924]? = some (Cond.code (pm_nm 75) (pm_by 75) (pm_ml 75) (pm_rty 75)) := (ntG_e lw_tbl 924).symm.trans rfl
set_option maxRecDepth 100000 in
set_option maxHeartbeats 4000000 in
theorem hc_76 : lw_tbl[938]? = some (Cond.code (pm_nm 76) (pm_by 76) (pm_ml 76) (pm_rty 76)) := (ntG_e lw_tbl 938).symm.trans rfl
set_option maxRecDepth 100000 in
set_option maxHeartbeats 4000000 in
theorem hc_77 : lw_tbl[100]? = some (Cond.code (pm_nm 77) (pm_by 77) (pm_ml 77) (pm_rty 77)) := (ntG_e lw_tbl 100).symm.trans rfl
set_option maxRecDepth 100000 in
set_option maxHeartbeats 4000000 in
theorem hc_78 : lw_tbl[104]? = some (Cond.code (pm_nm 78) (pm_by 78) (pm_ml 78) (pm_rty 78)) := (ntG_e lw_tbl 104).symm.trans rfl
set_option maxRecDepth 100000 in
set_option maxHeartbeats 4000000 in
theorem hc_79 : lw_tbl[500]? = some (Cond.code (pm_nm 79) (pm_by 79) (pm_ml 79) (pm_rty 79)) := (ntG_e lw_tbl 500).symm.trans rfl
set_option maxRecDepth 100000 in
set_option maxHeartbeats 4000000 in
theorem hc_80 : lw_tbl[343]? = some (Cond.code (pm_nm 80) (pm_by 80) (pm_ml 80) (pm_rty 80)) := (ntG_e lw_tbl 343).symm.trans rfl
set_option maxRecDepth 100000 in
set_option maxHeartbeats 4000000 in
theorem hc_81 : lw_tbl[339]? = some (Cond.code (pm_nm 81) (pm_by 81) (pm_ml 81) (pm_rty 81)) := (ntG_e lw_tbl 339).symm.trans rfl
set_option maxRecDepth 100000 in
set_option maxHeartbeats 4000000 in
theorem hc_82 : lw_tbl[335]? = some (Cond.code (pm_nm 82) (pm_by 82) (pm_ml 82) (pm_rty 82)) := (ntG_e lw_tbl 335).symm.trans rfl
set_option maxRecDepth 100000 in
set_option maxHeartbeats 4000000 in
theorem hc_83 : lw_tbl[357]? = some (Cond.code (pm_nm 83) (pm_by 83) (pm_ml 83) (pm_rty 83)) := (ntG_e lw_tbl 357).symm.trans rfl
set_option maxRecDepth 100000 in
set_option maxHeartbeats 4000000 in
theorem hc_84 : lw_tbl[378]? = some (Cond.code (pm_nm 84) (pm_by 84) (pm_ml 84) (pm_rty 84)) := (ntG_e lw_tbl 378).symm.trans rfl
set_option maxRecDepth 100000 in
set_option maxHeartbeats 4000000 in
theorem hc_85 : lw_tbl[403]? = some (Cond.code (pm_nm 85) (pm_by 85) (pm_ml 85) (pm_rty 85)) := (ntG_e lw_tbl 403).symm.trans rfl
set_option maxRecDepth 100000 in
set_option maxHeartbeats 4000000 in
theorem hc_86 : lw_tbl[602]? = some (Cond.code (pm_nm 86) (pm_by 86) (pm_ml 86) (pm_rty 86)) := (ntG_e lw_tbl 602).symm.trans rfl
set_option maxRecDepth 100000 in
set_option maxHeartbeats 4000000 in
theorem hc_87 : lw_tbl[361]? = some (Cond.code (pm_nm 87) (pm_by 87) (pm_ml 87) (pm_rty 87)) := (ntG_e lw_tbl 361).symm.trans rfl
set_option maxRecDepth 100000 in
set_option maxHeartbeats 4000000 in
theorem hc_88 : lw_tbl[369]? = some (Cond.code (pm_nm 88) (pm_by 88) (pm_ml 88) (pm_rty 88)) := (ntG_e lw_tbl 369).symm.trans rfl
set_option maxRecDepth 100000 in
set_option maxHeartbeats 4000000 in
theorem hc_89 : lw_tbl[793]? = some (Cond.code (pm_nm 89) (pm_by 89) (pm_ml 89) (pm_rty 89)) := (ntG_e lw_tbl 793).symm.trans rfl
set_option maxRecDepth 100000 in
set_option maxHeartbeats 4000000 in
theorem hc_90 : lw_tbl[92]? = some (Cond.code (pm_nm 90) (pm_by 90) (pm_ml 90) (pm_rty 90)) := (ntG_e lw_tbl 92).symm.trans rfl
set_option maxRecDepth 100000 in
set_option maxHeartbeats 4000000 in
theorem hc_91 : lw_tbl[331]? = some (Cond.code (pm_nm 91) (pm_by 91) (pm_ml 91) (pm_rty 91)) := (ntG_e lw_tbl 331).symm.trans rfl
set_option maxRecDepth 100000 in
set_option maxHeartbeats 4000000 in
theorem hc_92 : lw_tbl[353]? = some (Cond.code (pm_nm 92) (pm_by 92) (pm_ml 92) (pm_rty 92)) := (ntG_e lw_tbl 353).symm.trans rfl
set_option maxRecDepth 100000 in
set_option maxHeartbeats 4000000 in
theorem hc_93 : lw_tbl[365]? = some (Cond.code (pm_nm 93) (pm_by 93) (pm_ml 93) (pm_rty 93)) := (ntG_e lw_tbl 365).symm.trans rfl
set_option maxRecDepth 100000 in
set_option maxHeartbeats 4000000 in
theorem hc_94 : lw_tbl[374]? = some (Cond.code (pm_nm 94) (pm_by 94) (pm_ml 94) (pm_rty 94)) := (ntG_e lw_tbl 374).symm.trans rfl
set_option maxRecDepth 100000 in
set_option maxHeartbeats 4000000 in
theorem hc_95 : lw_tbl[383]? = some (Cond.code (pm_nm 95) (pm_by 95) (pm_ml 95) (pm_rty 95)) := (ntG_e lw_tbl 383).symm.trans rfl
set_option maxRecDepth 100000 in
set_option maxHeartbeats 4000000 in
theorem hc_96 : lw_tbl[387]? = some (Cond.code (pm_nm 96) (pm_by 96) (pm_ml 96) (pm_rty 96)) := (ntG_e lw_tbl 387).symm.trans rfl
set_option maxRecDepth 100000 in
set_option maxHeartbeats 4000000 in
theorem hc_97 : lw_tbl[511]? = some (Cond.code (pm_nm 97) (pm_by 97) (pm_ml 97) (pm_rty 97)) := (ntG_e lw_tbl 511).symm.trans rfl
set_option maxRecDepth 100000 in
set_option maxHeartbeats 4000000 in
theorem hc_98 : lw_tbl[524]? = some (Cond.code (pm_nm 98) (pm_by 98) (pm_ml 98) (pm_rty 98)) := (ntG_e lw_tbl 524).symm.trans rfl
set_option maxRecDepth 100000 in
set_option maxHeartbeats 4000000 in
theorem hc_99 : lw_tbl[391]? = some (Cond.code (pm_nm 99) (pm_by 99) (pm_ml 99) (pm_rty 99)) := (ntG_e lw_tbl 391).symm.trans rfl
set_option maxRecDepth 100000 in
set_option maxHeartbeats 4000000 in
theorem hc_100 : lw_tbl[395]? = some (Cond.code (pm_nm 100) (pm_by 100) (pm_ml 100) (pm_rty 100)) := (ntG_e lw_tbl 395).symm.trans rfl
set_option maxRecDepth 100000 in
set_option maxHeartbeats 4000000 in
theorem hc_101 : lw_tbl[399]? = some (Cond.code (pm_nm 101) (pm_by 101) (pm_ml 101) (pm_rty 101)) := (ntG_e lw_tbl 399).symm.trans rfl
set_option maxRecDepth 100000 in
set_option maxHeartbeats 4000000 in
theorem hc_102 : lw_tbl[417]? = some (Cond.code (pm_nm 102) (pm_by 102) (pm_ml 102) (pm_rty 102)) := (ntG_e lw_tbl 417).symm.trans rfl
set_option maxRecDepth 100000 in
set_option maxHeartbeats 4000000 in
theorem hc_103 : lw_tbl[532]? = some (Cond.code (pm_nm 103) (pm_by 103) (pm_ml 103) (pm_rty 103)) := (ntG_e lw_tbl 532).symm.trans rfl
set_option maxRecDepth 100000 in
set_option maxHeartbeats 4000000 in
theorem hc_104 : lw_tbl[553]? = some (Cond.code (pm_nm 104) (pm_by 104) (pm_ml 104) (pm_rty 104)) := (ntG_e lw_tbl 553).symm.trans rfl
set_option maxRecDepth 100000 in
set_option maxHeartbeats 4000000 in
theorem hc_105 : lw_tbl[582]? = some (Cond.code (pm_nm 105) (pm_by 105) (pm_ml 105) (pm_rty 105)) := (ntG_e lw_tbl 582).symm.trans rfl
set_option maxRecDepth 100000 in
set_option maxHeartbeats 4000000 in
theorem hc_106 : lw_tbl[703]? = some (Cond.code (pm_nm 106) (pm_by 106) (pm_ml 106) (pm_rty 106)) := (ntG_e lw_tbl 703).symm.trans rfl
set_option maxRecDepth 100000 in
set_option maxHeartbeats 4000000 in
theorem hc_107 : lw_tbl[717]? = some (Cond.code (pm_nm 107) (pm_by 107) (pm_ml 107) (pm_rty 107)) := (ntG_e lw_tbl 717).symm.trans rfl
set_option maxRecDepth 100000 in
set_option maxHeartbeats 4000000 in
theorem hc_108 : lw_tbl[721]? = some (Cond.code (pm_nm 108) (pm_by 108) (pm_ml 108) (pm_rty 108)) := (ntG_e lw_tbl 721).symm.trans rfl
set_option maxRecDepth 100000 in
set_option maxHeartbeats 4000000 in
theorem hc_109 : lw_tbl[586]? = some (Cond.code (pm_nm 109) (pm_by 109) (pm_ml 109) (pm_rty 109)) := (ntG_e lw_tbl 586).symm.trans rfl
set_option maxRecDepth 100000 in
set_option maxHeartbeats 4000000 in
theorem hc_110 : lw_tbl[590]? = some (Cond.code (pm_nm 110) (pm_by 110) (pm_ml 110) (pm_rty 110)) := (ntG_e lw_tbl 590).symm.trans rfl
set_option maxRecDepth 100000 in
set_option maxHeartbeats 4000000 in
theorem hc_111 : lw_tbl[557]? = some (Cond.code (pm_nm 111) (pm_by 111) (pm_ml 111) (pm_rty 111)) := (ntG_e lw_tbl 557).symm.trans rfl
set_option maxRecDepth 100000 in
set_option maxHeartbeats 4000000 in
theorem hc_112 : lw_tbl[707]? = some (Cond.code (pm_nm 112) (pm_by 112) (pm_ml 112) (pm_rty 112)) := (ntG_e lw_tbl 707).symm.trans rfl
set_option maxRecDepth 100000 in
set_option maxHeartbeats 4000000 in
theorem hc_113 : lw_tbl[740]? = some (Cond.code (pm_nm 113) (pm_by 113) (pm_ml 113) (pm_rty 113)) := (ntG_e lw_tbl 740).symm.trans rfl
set_option maxRecDepth 100000 in
set_option maxHeartbeats 4000000 in
theorem hc_114 : lw_tbl[748]? = some (Cond.code (pm_nm 114) (pm_by 114) (pm_ml 114) (pm_rty 114)) := (ntG_e lw_tbl 748).symm.trans rfl
set_option maxRecDepth 100000 in
set_option maxHeartbeats 4000000 in
theorem hc_115 : lw_tbl[752]? = some (Cond.code (pm_nm 115) (pm_by 115) (pm_ml 115) (pm_rty 115)) := (ntG_e lw_tbl 752).symm.trans rfl
set_option maxRecDepth 100000 in
set_option maxHeartbeats 4000000 in
theorem hc_116 : lw_tbl[769]? = some (Cond.code (pm_nm 116) (pm_by 116) (pm_ml 116) (pm_rty 116)) := (ntG_e lw_tbl 769).symm.trans rfl
set_option maxRecDepth 100000 in
set_option maxHeartbeats 4000000 in
theorem hc_117 : lw_tbl[781]? = some (Cond.code (pm_nm 117) (pm_by 117) (pm_ml 117) (pm_rty 117)) := (ntG_e lw_tbl 781).symm.trans rfl
set_option maxRecDepth 100000 in
set_option maxHeartbeats 4000000 in
theorem hc_118 : lw_tbl[834]? = some (Cond.code (pm_nm 118) (pm_by 118) (pm_ml 118) (pm_rty 118)) := (ntG_e lw_tbl 834).symm.trans rfl
set_option maxRecDepth 100000 in
set_option maxHeartbeats 4000000 in
theorem hc_119 : lw_tbl[838]? = some (Cond.code (pm_nm 119) (pm_by 119) (pm_ml 119) (pm_rty 119)) := (ntG_e lw_tbl 838).symm.trans rfl
set_option maxRecDepth 100000 in
set_option maxHeartbeats 4000000 in
theorem hc_120 : lw_tbl[916]? = some (Cond.code (pm_nm 120) (pm_by 120) (pm_ml 120) (pm_rty 120)) := (ntG_e lw_tbl 916).symm.trans rfl
set_option maxRecDepth 100000 in
set_option maxHeartbeats 4000000 in
theorem hc_121 : lw_tbl[920]? = some (Cond.code (pm_nm 121) (pm_by 121) (pm_ml 121) (pm_rty 121)) := (ntG_e lw_tbl 920).symm.trans rfl
set_option maxRecDepth 100000 in
set_option maxHeartbeats 4000000 in
theorem hc_122 : lw_tbl[928]? = some (Cond.code (pm_nm 122) (pm_by 122) (pm_ml 122) (pm_rty 122)) := (ntG_e lw_tbl 928).symm.trans rfl
set_option maxRecDepth 100000 in
set_option maxHeartbeats 4000000 in
theorem hc_123 : lw_tbl[933]? = some (Cond.code (pm_nm 123) (pm_by 123) (pm_ml 123) (pm_rty 123)) := (ntG_e lw_tbl 933).symm.trans rfl
set_option maxRecDepth 100000 in
set_option maxHeartbeats 4000000 in
theorem hc_124 : lw_tbl[785]? = some (Cond.code (pm_nm 124) (pm_by 124) (pm_ml 124) (pm_rty 124)) := (ntG_e lw_tbl 785).symm.trans rfl
set_option maxRecDepth 100000 in
set_option maxHeartbeats 4000000 in
theorem hc_125 : lw_tbl[789]? = some (Cond.code (pm_nm 125) (pm_by 125) (pm_ml 125) (pm_rty 125)) := (ntG_e lw_tbl 789).symm.trans rfl
set_option maxRecDepth 100000 in
set_option maxHeartbeats 4000000 in
theorem hc_126 : lw_tbl[842]? = some (Cond.code (pm_nm 126) (pm_by 126) (pm_ml 126) (pm_rty 126)) := (ntG_e lw_tbl 842).symm.trans rfl
set_option maxRecDepth 100000 in
set_option maxHeartbeats 4000000 in
theorem hc_127 : lw_tbl[943]? = some (Cond.code (pm_nm 127) (pm_by 127) (pm_ml 127) (pm_rty 127)) := (ntG_e lw_tbl 943).symm.trans rfl
set_option maxRecDepth 100000 in
set_option maxHeartbeats 4000000 in
theorem hc_128 : lw_tbl[1078]? = some (Cond.code (pm_nm 128) (pm_by 128) (pm_ml 128) (pm_rty 128)) := (ntG_e lw_tbl 1078).symm.trans rfl
set_option maxRecDepth 100000 in
set_option maxHeartbeats 4000000 in
theorem hc_129 : lw_tbl[1075]? = some (Cond.code (pm_nm 129) (pm_by 129) (pm_ml 129) (pm_rty 129)) := (ntG_e lw_tbl 1075).symm.trans rfl
set_option maxRecDepth 100000 in
set_option maxHeartbeats 4000000 in
theorem hc_130 : lw_tbl[1071]? = some (Cond.code (pm_nm 130) (pm_by 130) (pm_ml 130) (pm_rty 130)) := (ntG_e lw_tbl 1071).symm.trans rfl
set_option maxRecDepth 100000 in
set_option maxHeartbeats 4000000 in
theorem hc_131 : lw_tbl[1086]? = some (Cond.code (pm_nm 131) (pm_by 131) (pm_ml 131) (pm_rty 131)) := (ntG_e lw_tbl 1086).symm.trans rfl
set_option maxRecDepth 100000 in
set_option maxHeartbeats 4000000 in
theorem hc_132 : lw_tbl[1090]? = some (Cond.code (pm_nm 132) (pm_by 132) (pm_ml 132) (pm_rty 132)) := (ntG_e lw_tbl 1090).symm.trans rfl
set_option maxRecDepth 100000 in
set_option maxHeartbeats 4000000 in
theorem hc_133 : lw_tbl[1098]? = some (Cond.code (pm_nm 133) (pm_by 133) (pm_ml 133) (pm_rty 133)) := (ntG_e lw_tbl 1098).symm.trans rfl
set_option maxRecDepth 100000 in
set_option maxHeartbeats 4000000 in
theorem hc_134 : lw_tbl[1067]? = some (Cond.code (pm_nm 134) (pm_by 134) (pm_ml 134) (pm_rty 134)) := (ntG_e lw_tbl 1067).symm.trans rfl
set_option maxRecDepth 100000 in
set_option maxHeartbeats 4000000 in
theorem hc_135 : lw_tbl[1082]? = some (Cond.code (pm_nm 135) (pm_by 135) (pm_ml 135) (pm_rty 135)) := (ntG_e lw_tbl 1082).symm.trans rfl
set_option maxRecDepth 100000 in
set_option maxHeartbeats 4000000 in
theorem hc_136 : lw_tbl[1094]? = some (Cond.code (pm_nm 136) (pm_by 136) (pm_ml 136) (pm_rty 136)) := (ntG_e lw_tbl 1094).symm.trans rfl
set_option maxRecDepth 100000 in
set_option maxHeartbeats 4000000 in
theorem hc_137 : lw_tbl[1102]? = some (Cond.code (pm_nm 137) (pm_by 137) (pm_ml 137) (pm_rty 137)) := (ntG_e lw_tbl 1102).symm.trans rfl
set_option maxRecDepth 100000 in
set_option maxHeartbeats 4000000 in
theorem hc_138 : lw_tbl[1106]? = some (Cond.code (pm_nm 138) (pm_by 138) (pm_ml 138) (pm_rty 138)) := (ntG_e lw_tbl 1106).symm.trans rfl
set_option maxRecDepth 100000 in
set_option maxHeartbeats 4000000 in
theorem hc_139 : lw_tbl[1138]? = some (Cond.code (pm_nm 139) (pm_by 139) (pm_ml 139) (pm_rty 139)) := (ntG_e lw_tbl 1138).symm.trans rfl
set_option maxRecDepth 100000 in
set_option maxHeartbeats 4000000 in
theorem hc_140 : lw_tbl[1126]? = some (Cond.code (pm_nm 140) (pm_by 140) (pm_ml 140) (pm_rty 140)) := (ntG_e lw_tbl 1126).symm.trans rfl
set_option maxRecDepth 100000 in
set_option maxHeartbeats 4000000 in
theorem hc_141 : lw_tbl[1114]? = some (Cond.code (pm_nm 141) (pm_by 141) (pm_ml 141) (pm_rty 141)) := (ntG_e lw_tbl 1114).symm.trans rfl
set_option maxRecDepth 100000 in
set_option maxHeartbeats 4000000 in
theorem hc_142 : lw_tbl[1110]? = some (Cond.code (pm_nm 142) (pm_by 142) (pm_ml 142) (pm_rty 142)) := (ntG_e lw_tbl 1110).symm.trans rfl
set_option maxRecDepth 100000 in
set_option maxHeartbeats 4000000 in
theorem hc_143 : lw_tbl[1122]? = some (Cond.code (pm_nm 143) (pm_by 143) (pm_ml 143) (pm_rty 143)) := (ntG_e lw_tbl 1122).symm.trans rfl
set_option maxRecDepth 100000 in
set_option maxHeartbeats 4000000 in
theorem hc_144 : lw_tbl[1118]? = some (Cond.code (pm_nm 144) (pm_by 144) (pm_ml 144) (pm_rty 144)) := (ntG_e lw_tbl 1118).symm.trans rfl
set_option maxRecDepth 100000 in
set_option maxHeartbeats 4000000 in
theorem hc_145 : lw_tbl[1134]? = some (Cond.code (pm_nm 145) (pm_by 145) (pm_ml 145) (pm_rty 145)) := (ntG_e lw_tbl 1134).symm.trans rfl
set_option maxRecDepth 100000 in
set_option maxHeartbeats 4000000 in
theorem hc_146 : lw_tbl[1130]? = some (Cond.code (pm_nm 146) (pm_by 146) (pm_ml 146) (pm_rty 146)) := (ntG_e lw_tbl 1130).symm.trans rfl
set_option maxRecDepth 100000 in
set_option maxHeartbeats 4000000 in
theorem hc_147 : lw_tbl[1186]? = some (Cond.code (pm_nm 147) (pm_by 147) (pm_ml 147) (pm_rty 147)) := (ntG_e lw_tbl 1186).symm.trans rfl
set_option maxRecDepth 100000 in
set_option maxHeartbeats 4000000 in
theorem hc_148 : lw_tbl[1182]? = some (Cond.code (pm_nm 148) (pm_by 148) (pm_ml 148) (pm_rty 148)) := (ntG_e lw_tbl 1182).symm.trans rfl
set_option maxRecDepth 100000 in
set_option maxHeartbeats 4000000 in
theorem hc_149 : lw_tbl[1190]? = some (Cond.code (pm_nm 149) (pm_by 149) (pm_ml 149) (pm_rty 149)) := (ntG_e lw_tbl 1190).symm.trans rfl
set_option maxRecDepth 100000 in
set_option maxHeartbeats 4000000 in
theorem hc_150 : lw_tbl[1174]? = some (Cond.code (pm_nm 150) (pm_by 150) (pm_ml 150) (pm_rty 150)) := (ntG_e lw_tbl 1174).symm.trans rfl
set_option maxRecDepth 100000 in
set_option maxHeartbeats 4000000 in
theorem hc_151 : lw_tbl[1178]? = some (Cond.code (pm_nm 151) (pm_by 151) (pm_ml 151) (pm_rty 151)) := (ntG_e lw_tbl 1178).symm.trans rfl
set_option maxRecDepth 100000 in
set_option maxHeartbeats 4000000 in
theorem hc_152 : lw_tbl[1198]? = some (Cond.code (pm_nm 152) (pm_by 152) (pm_ml 152) (pm_rty 152)) := (ntG_e lw_tbl 1198).symm.trans rfl
set_option maxRecDepth 100000 in
set_option maxHeartbeats 4000000 in
theorem hc_153 : lw_tbl[1194]? = some (Cond.code (pm_nm 153) (pm_by 153) (pm_ml 153) (pm_rty 153)) := (ntG_e lw_tbl 1194).symm.trans rfl
set_option maxRecDepth 100000 in
set_option maxHeartbeats 4000000 in
theorem hc_154 : lw_tbl[1206]? = some (Cond.code (pm_nm 154) (pm_by 154) (pm_ml 154) (pm_rty 154)) := (ntG_e lw_tbl 1206).symm.trans rfl
set_option maxRecDepth 100000 in
set_option maxHeartbeats 4000000 in
theorem hc_155 : lw_tbl[1170]? = some (Cond.code (pm_nm 155) (pm_by 155) (pm_ml 155) (pm_rty 155)) := (ntG_e lw_tbl 1170).symm.trans rfl
set_option maxRecDepth 100000 in
set_option maxHeartbeats 4000000 in
theorem hc_156 : lw_tbl[1202]? = some (Cond.code (pm_nm 156) (pm_by 156) (pm_ml 156) (pm_rty 156)) := (ntG_e lw_tbl 1202).symm.trans rfl
set_option maxRecDepth 100000 in
set_option maxHeartbeats 4000000 in
theorem hc_157 : lw_tbl[1166]? = some (Cond.code (pm_nm 157) (pm_by 157) (pm_ml 157) (pm_rty 157)) := (ntG_e lw_tbl 1166).symm.trans rfl
set_option maxRecDepth 100000 in
set_option maxHeartbeats 4000000 in
theorem hc_158 : lw_tbl[1210]? = some (Cond.code (pm_nm 158) (pm_by 158) (pm_ml 158) (pm_rty 158)) := (ntG_e lw_tbl 1210).symm.trans rfl
set_option maxRecDepth 100000 in
set_option maxHeartbeats 4000000 in
theorem hc_159 : lw_tbl[1162]? = some (Cond.code (pm_nm 159) (pm_by 159) (pm_ml 159) (pm_rty 159)) := (ntG_e lw_tbl 1162).symm.trans rfl
set_option maxRecDepth 100000 in
set_option maxHeartbeats 4000000 in
theorem hc_160 : lw_tbl[1154]? = some (Cond.code (pm_nm 160) (pm_by 160) (pm_ml 160) (pm_rty 160)) := (ntG_e lw_tbl 1154).symm.trans rfl
set_option maxRecDepth 100000 in
set_option maxHeartbeats 4000000 in
theorem hc_161 : lw_tbl[1158]? = some (Cond.code (pm_nm 161) (pm_by 161) (pm_ml 161) (pm_rty 161)) := (ntG_e lw_tbl 1158).symm.trans rfl
set_option maxRecDepth 100000 in
set_option maxHeartbeats 4000000 in
theorem hc_162 : lw_tbl[1142]? = some (Cond.code (pm_nm 162) (pm_by 162) (pm_ml 162) (pm_rty 162)) := (ntG_e lw_tbl 1142).symm.trans rfl
set_option maxRecDepth 100000 in
set_option maxHeartbeats 4000000 in
theorem hc_163 : lw_tbl[1146]? = some (Cond.code (pm_nm 163) (pm_by 163) (pm_ml 163) (pm_rty 163)) := (ntG_e lw_tbl 1146).symm.trans rfl
set_option maxRecDepth 100000 in
set_option maxHeartbeats 4000000 in
theorem hc_164 : lw_tbl[1150]? = some (Cond.code (pm_nm 164) (pm_by 164) (pm_ml 164) (pm_rty 164)) := (ntG_e lw_tbl 1150).symm.trans rfl
set_option maxRecDepth 100000 in
set_option maxHeartbeats 4000000 in
theorem hc_165 : lw_tbl[1218]? = some (Cond.code (pm_nm 165) (pm_by 165) (pm_ml 165) (pm_rty 165)) := (ntG_e lw_tbl 1218).symm.trans rfl
set_option maxRecDepth 100000 in
set_option maxHeartbeats 4000000 in
theorem hc_166 : lw_tbl[1214]? = some (Cond.code (pm_nm 166) (pm_by 166) (pm_ml 166) (pm_rty 166)) := (ntG_e lw_tbl 1214).symm.trans rfl
set_option maxRecDepth 100000 in
set_option maxHeartbeats 4000000 in
theorem hc_167 : lw_tbl[1222]? = some (Cond.code (pm_nm 167) (pm_by 167) (pm_ml 167) (pm_rty 167)) := (ntG_e lw_tbl 1222).symm.trans rfl
set_option maxRecDepth 100000 in
set_option maxHeartbeats 4000000 in
theorem hc_168 : lw_tbl[1226]? = some (Cond.code (pm_nm 168) (pm_by 168) (pm_ml 168) (pm_rty 168)) := (ntG_e lw_tbl 1226).symm.trans rfl
set_option maxRecDepth 100000 in
set_option maxHeartbeats 4000000 in
theorem hc_169 : lw_tbl[1234]? = some (Cond.code (pm_nm 169) (pm_by 169) (pm_ml 169) (pm_rty 169)) := (ntG_e lw_tbl 1234).symm.trans rfl
set_option maxRecDepth 100000 in
set_option maxHeartbeats 4000000 in
theorem hc_170 : lw_tbl[1246]? = some (Cond.code (pm_nm 170) (pm_by 170) (pm_ml 170) (pm_rty 170)) := (ntG_e lw_tbl 1246).symm.trans rfl
set_option maxRecDepth 100000 in
set_option maxHeartbeats 4000000 in
theorem hc_171 : lw_tbl[1230]? = some (Cond.code (pm_nm 171) (pm_by 171) (pm_ml 171) (pm_rty 171)) := (ntG_e lw_tbl 1230).symm.trans rfl
set_option maxRecDepth 100000 in
set_option maxHeartbeats 4000000 in
theorem hc_172 : lw_tbl[1238]? = some (Cond.code (pm_nm 172) (pm_by 172) (pm_ml 172) (pm_rty 172)) := (ntG_e lw_tbl 1238).symm.trans rfl
set_option maxRecDepth 100000 in
set_option maxHeartbeats 4000000 in
theorem hc_173 : lw_tbl[1242]? = some (Cond.code (pm_nm 173) (pm_by 173) (pm_ml 173) (pm_rty 173)) := (ntG_e lw_tbl 1242).symm.trans rfl
set_option maxRecDepth 100000 in
set_option maxHeartbeats 4000000 in
theorem hc_174 : lw_tbl[1250]? = some (Cond.code (pm_nm 174) (pm_by 174) (pm_ml 174) (pm_rty 174)) := (ntG_e lw_tbl 1250).symm.trans rfl
set_option maxRecDepth 100000 in
set_option maxHeartbeats 4000000 in
theorem hc_175 : lw_tbl[1258]? = some (Cond.code (pm_nm 175) (pm_by 175) (pm_ml 175) (pm_rty 175)) := (ntG_e lw_tbl 1258).symm.trans rfl
set_option maxRecDepth 100000 in
set_option maxHeartbeats 4000000 in
theorem hc_176 : lw_tbl[1254]? = some (Cond.code (pm_nm 176) (pm_by 176) (pm_ml 176) (pm_rty 176)) := (ntG_e lw_tbl 1254).symm.trans rfl
set_option maxRecDepth 100000 in
set_option maxHeartbeats 4000000 in
theorem hc_177 : lw_tbl[1262]? = some (Cond.code (pm_nm 177) (pm_by 177) (pm_ml 177) (pm_rty 177)) := (ntG_e lw_tbl 1262).symm.trans rfl
set_option maxRecDepth 100000 in
set_option maxHeartbeats 4000000 in
theorem hc_178 : lw_tbl[1274]? = some (Cond.code (pm_nm 178) (pm_by 178) (pm_ml 178) (pm_rty 178)) := (ntG_e lw_tbl 1274).symm.trans rfl
set_option maxRecDepth 100000 in
set_option maxHeartbeats 4000000 in
theorem hc_179 : lw_tbl[1282]? = some (Cond.code (pm_nm 179) (pm_by 179) (pm_ml 179) (pm_rty 179)) := (ntG_e lw_tbl 1282).symm.trans rfl
set_option maxRecDepth 100000 in
set_option maxHeartbeats 4000000 in
theorem hc_180 : lw_tbl[1286]? = some (Cond.code (pm_nm 180) (pm_by 180) (pm_ml 180) (pm_rty 180)) := (ntG_e lw_tbl 1286).symm.trans rfl
set_option maxRecDepth 100000 in
set_option maxHeartbeats 4000000 in
theorem hc_181 : lw_tbl[1290]? = some (Cond.code (pm_nm 181) (pm_by 181) (pm_ml 181) (pm_rty 181)) := (ntG_e lw_tbl 1290).symm.trans rfl
set_option maxRecDepth 100000 in
set_option maxHeartbeats 4000000 in
theorem hc_182 : lw_tbl[1294]? = some (Cond.code (pm_nm 182) (pm_by 182) (pm_ml 182) (pm_rty 182)) := (ntG_e lw_tbl 1294).symm.trans rfl
set_option maxRecDepth 100000 in
set_option maxHeartbeats 4000000 in
theorem hc_183 : lw_tbl[1278]? = some (Cond.code (pm_nm 183) (pm_by 183) (pm_ml 183) (pm_rty 183)) := (ntG_e lw_tbl 1278).symm.trans rfl
set_option maxRecDepth 100000 in
set_option maxHeartbeats 4000000 in
theorem hc_184 : lw_tbl[1270]? = some (Cond.code (pm_nm 184) (pm_by 184) (pm_ml 184) (pm_rty 184)) := (ntG_e lw_tbl 1270).symm.trans rfl
set_option maxRecDepth 100000 in
set_option maxHeartbeats 4000000 in
theorem hc_185 : lw_tbl[1266]? = some (Cond.code (pm_nm 185) (pm_by 185) (pm_ml 185) (pm_rty 185)) := (ntG_e lw_tbl 1266).symm.trans rfl
set_option maxRecDepth 100000 in
set_option maxHeartbeats 4000000 in
theorem hc_186 : lw_tbl[1298]? = some (Cond.code (pm_nm 186) (pm_by 186) (pm_ml 186) (pm_rty 186)) := (ntG_e lw_tbl 1298).symm.trans rfl
set_option maxRecDepth 100000 in
set_option maxHeartbeats 4000000 in
theorem hc_187 : lw_tbl[1302]? = some (Cond.code (pm_nm 187) (pm_by 187) (pm_ml 187) (pm_rty 187)) := (ntG_e lw_tbl 1302).symm.trans rfl
set_option maxRecDepth 100000 in
set_option maxHeartbeats 4000000 in
theorem hc_188 : lw_tbl[1306]? = some (Cond.code (pm_nm 188) (pm_by 188) (pm_ml 188) (pm_rty 188)) := (ntG_e lw_tbl 1306).symm.trans rfl
set_option maxRecDepth 100000 in
set_option maxHeartbeats 4000000 in
theorem hc_189 : lw_tbl[1310]? = some (Cond.code (pm_nm 189) (pm_by 189) (pm_ml 189) (pm_rty 189)) := (ntG_e lw_tbl 1310).symm.trans rfl
set_option maxRecDepth 100000 in
set_option maxHeartbeats 4000000 in
theorem hc_190 : lw_tbl[729]? = some (Cond.code (pm_nm 190) (pm_by 190) (pm_ml 190) (pm_rty 190)) := (ntG_e lw_tbl 729).symm.trans rfl
def pm_yc0 : List Nat := [1, 2, 3, 4, 5, 6, 7, 8, 9, 10, 11, 12, 13, 14, 15, 16, 17, 18, 19, 20]
set_option maxRecDepth 100000 in
set_option maxHeartbeats 4000000 in
theorem pm_yc0_ok : ∀ y ∈ pm_yc0, Cond.code (pm_nm y) (pm_by y) (pm_ml y) (pm_rty y) ∈ lw_tbl := List.forall_mem_cons.mpr ⟨List.mem_of_getElem? hc_1, List.forall_mem_cons.mpr ⟨List.mem_of_getElem? hc_2, List.forall_mem_cons.mpr ⟨List.mem_of_getElem? hc_3, List.forall_mem_cons.mpr ⟨List.mem_of_getElem? hc_4, List.forall_mem_cons.mpr ⟨List.mem_of_getElem? hc_5, List.forall_mem_cons.mpr ⟨List.mem_of_getElem? hc_6, List.forall_mem_cons.mpr ⟨List.mem_of_getElem? hc_7, List.forall_mem_cons.mpr ⟨List.mem_of_getElem? hc_8, List.forall_mem_cons.mpr ⟨List.mem_of_getElem? hc_9, List.forall_mem_cons.mpr ⟨List.mem_of_getElem? hc_10, List.forall_mem_cons.mpr ⟨List.mem_of_getElem? hc_11, List.forall_mem_cons.mpr ⟨List.mem_of_getElem? hc_12, List.forall_mem_cons.mpr ⟨List.mem_of_getElem? hc_13, List.forall_mem_cons.mpr ⟨List.mem_of_getElem? hc_14, List.forall_mem_cons.mpr ⟨List.mem_of_getElem? hc_15, List.forall_mem_cons.mpr ⟨List.mem_of_getElem? hc_16, List.forall_mem_cons.mpr ⟨List.mem_of_getElem? hc_17, List.forall_mem_cons.mpr ⟨List.mem_of_getElem? hc_18, List.forall_mem_cons.mpr ⟨List.mem_of_getElem? hc_19, List.forall_mem_cons.mpr ⟨List.mem_of_getElem? hc_20, fun _ h => absurd h List.not_mem_nil⟩⟩⟩⟩⟩⟩⟩⟩⟩⟩⟩⟩⟩⟩⟩⟩⟩⟩⟩⟩
def pm_yc1 : List Nat := [21, 22, 23, 24, 25, 26, 27, 28, 29, 30, 31, 32, 33, 34, 35, 36, 37, 38, 39, 40]
set_option maxRecDepth 100000 in
set_option maxHeartbeats 4000000 in
theorem pm_yc1_ok : ∀ y ∈ pm_yc1, Cond.code (pm_nm y) (pm_by y) (pm_ml y) (pm_rty y) ∈ lw_tbl := List.forall_mem_cons.mpr ⟨List.mem_of_getElem? hc_21, List.forall_mem_cons.mpr ⟨List.mem_of_getElem? hc_22, List.forall_mem_cons.mpr ⟨List.mem_of_getElem? hc_23, List.forall_mem_cons.mpr ⟨List.mem_of_getElem? hc_24, List.forall_mem_cons.mpr ⟨List.mem_of_getElem? hc_25, List.forall_mem_cons.mpr ⟨List.mem_of_getElem? hc_26, List.forall_mem_cons.mpr ⟨List.mem_of_getElem? hc_27, List.forall_mem_cons.mpr ⟨List.mem_of_getElem? hc_28, List.forall_mem_cons.mpr ⟨List.mem_of_getElem? hc_29, List.forall_mem_cons.mpr ⟨List.mem_of_getElem? hc_30, List.forall_mem_cons.mpr ⟨List.mem_of_getElem? hc_31, List.forall_mem_cons.mpr ⟨List.mem_of_getElem? hc_32, List.forall_mem_cons.mpr ⟨List.mem_of_getElem? hc_33, List.forall_mem_cons.mpr ⟨List.mem_of_getElem? hc_34, List.forall_mem_cons.mpr ⟨List.mem_of_getElem? hc_35, List.forall_mem_cons.mpr ⟨List.mem_of_getElem? hc_36, List.forall_mem_cons.mpr ⟨List.mem_of_getElem? hc_37, List.forall_mem_cons.mpr ⟨List.mem_of_getElem? hc_38, List.forall_mem_cons.mpr ⟨List.mem_of_getElem? hc_39, List.forall_mem_cons.mpr ⟨List.mem_of_getElem? hc_40, fun _ h => absurd h List.not_mem_nil⟩⟩⟩⟩⟩⟩⟩⟩⟩⟩⟩⟩⟩⟩⟩⟩⟩⟩⟩⟩
def pm_yc2 : List Nat := [41, 42, 43, 44, 45, 46, 47, 48, 49, 50, 51, 52, 53, 54, 55, 56, 57, 58, 59, 60]
set_option maxRecDepth 100000 in
set_option maxHeartbeats 4000000 in
theorem pm_yc2_ok : ∀ y ∈ pm_yc2, Cond.code (pm_nm y) (pm_by y) (pm_ml y) (pm_rty y) ∈ lw_tbl := List.forall_mem_cons.mpr ⟨List.mem_of_getElem? hc_41, List.forall_mem_cons.mpr ⟨List.mem_of_getElem? hc_42, List.forall_mem_cons.mpr ⟨List.mem_of_getElem? hc_43, List.forall_mem_cons.mpr ⟨List.mem_of_getElem? hc_44, List.forall_mem_cons.mpr ⟨List.mem_of_getElem? hc_45, List.forall_mem_cons.mpr ⟨List.mem_of_getElem? hc_46, List.forall_mem_cons.mpr ⟨List.mem_of_getElem? hc_47, List.forall_mem_cons.mpr ⟨List.mem_of_getElem? hc_48, List.forall_mem_cons.mpr ⟨List.mem_of_getElem? hc_49, List.forall_mem_cons.mpr ⟨List.mem_of_getElem? hc_50, List.forall_mem_cons.mpr ⟨List.mem_of_getElem? hc_51, List.forall_mem_cons.mpr ⟨List.mem_of_getElem? hc_52, List.forall_mem_cons.mpr ⟨List.mem_of_getElem? hc_53, List.forall_mem_cons.mpr ⟨List.mem_of_getElem? hc_54, List.forall_mem_cons.mpr ⟨List.mem_of_getElem? hc_55, List.forall_mem_cons.mpr ⟨List.mem_of_getElem? hc_56, List.forall_mem_cons.mpr ⟨List.mem_of_getElem? hc_57, List.forall_mem_cons.mpr ⟨List.mem_of_getElem? hc_58, List.forall_mem_cons.mpr ⟨List.mem_of_getElem? hc_59, List.forall_mem_cons.mpr ⟨List.mem_of_getElem? hc_60, fun _ h => absurd h List.not_mem_nil⟩⟩⟩⟩⟩⟩⟩⟩⟩⟩⟩⟩⟩⟩⟩⟩⟩⟩⟩⟩
def pm_yc3 : List Nat := [61, 62, 63, 64, 65, 66, 67, 68, 69, 70, 71, 72, 73, 74, 75, 76, 77, 78, 79, 80]
set_option maxRecDepth 100000 in
set_option maxHeartbeats 4000000 in
theorem pm_yc3_ok : ∀ y ∈ pm_yc3, Cond.code (pm_nm y) (pm_by y) (pm_ml y) (pm_rty y) ∈ lw_tbl := List.forall_mem_cons.mpr ⟨List.mem_of_getElem? hc_61, List.forall_mem_cons.mpr ⟨List.mem_of_getElem? hc_62, List.forall_mem_cons.mpr ⟨List.mem_of_getElem? hc_63, List.forall_mem_cons.mpr ⟨List.mem_of_getElem? hc_64, List.forall_mem_cons.mpr ⟨List.mem_of_getElem? hc_65, List.forall_mem_cons.mpr ⟨List.mem_of_getElem? hc_66, List.forall_mem_cons.mpr ⟨List.mem_of_getElem? hc_67, List.forall_mem_cons.mpr ⟨List.mem_of_getElem? hc_68, List.forall_mem_cons.mpr ⟨List.mem_of_getElem? hc_69, List.forall_mem_cons.mpr ⟨List.mem_of_getElem? hc_70, List.forall_mem_cons.mpr ⟨List.mem_of_getElem? hc_71, List.forall_mem_cons.mpr ⟨List.mem_of_getElem? hc_72, List.forall_mem_cons.mpr ⟨List.mem_of_getElem? hc_73, List.forall_mem_cons.mpr ⟨List.mem_of_getElem? hc_74, List.forall_mem_cons.mpr ⟨List.mem_of_getElem? hc_75, List.forall_mem_cons.mpr ⟨List.mem_of_getElem? hc_76, List.forall_mem_cons.mpr ⟨List.mem_of_getElem? hc_77, List.forall_mem_cons.mpr ⟨List.mem_of_getElem? hc_78, List.forall_mem_cons.mpr ⟨List.mem_of_getElem? hc_79, List.forall_mem_cons.mpr ⟨List.mem_of_getElem? hc_80, fun _ h => absurd h List.not_mem_nil⟩⟩⟩⟩⟩⟩⟩⟩⟩⟩⟩⟩⟩⟩⟩⟩⟩⟩⟩⟩
def pm_yc4 : List Nat := [81, 82, 83, 84, 85, 86, 87, 88, 89, 90, 91, 92, 93, 94, 95, 96, 97, 98, 99, 100]
set_option maxRecDepth 100000 in
set_option maxHeartbeats 4000000 in
theorem pm_yc4_ok : ∀ y ∈ pm_yc4, Cond.code (pm_nm y) (pm_by y) (pm_ml y) (pm_rty y) ∈ lw_tbl := List.forall_mem_cons.mpr ⟨List.mem_of_getElem? hc_81, List.forall_mem_cons.mpr ⟨List.mem_of_getElem? hc_82, List.forall_mem_cons.mpr ⟨List.mem_of_getElem? hc_83, List.forall_mem_cons.mpr ⟨List.mem_of_getElem? hc_84, List.forall_mem_cons.mpr ⟨List.mem_of_getElem? hc_85, List.forall_mem_cons.mpr ⟨List.mem_of_getElem? hc_86, List.forall_mem_cons.mpr ⟨List.mem_of_getElem? hc_87, List.forall_mem_cons.mpr ⟨List.mem_of_getElem? hc_88, List.forall_mem_cons.mpr ⟨List.mem_of_getElem? hc_89, List.forall_mem_cons.mpr ⟨List.mem_of_getElem? hc_90, List.forall_mem_cons.mpr ⟨List.mem_of_getElem? hc_91, List.forall_mem_cons.mpr ⟨List.mem_of_getElem? hc_92, List.forall_mem_cons.mpr ⟨List.mem_of_getElem? hc_93, List.forall_mem_cons.mpr ⟨List.mem_of_getElem? hc_94, List.forall_mem_cons.mpr ⟨List.mem_of_getElem? hc_95, List.forall_mem_cons.mpr ⟨List.mem_of_getElem? hc_96, List.forall_mem_cons.mpr ⟨List.mem_of_getElem? hc_97, List.forall_mem_cons.mpr ⟨List.mem_of_getElem? hc_98, List.forall_mem_cons.mpr ⟨List.mem_of_getElem? hc_99, List.forall_mem_cons.mpr ⟨List.mem_of_getElem? hc_100, fun _ h => absurd h List.not_mem_nil⟩⟩⟩⟩⟩⟩⟩⟩⟩⟩⟩⟩⟩⟩⟩⟩⟩⟩⟩⟩
def pm_yc5 : List Nat := [101, 102, 103, 104, 105, 106, 107, 108, 109, 110, 111, 112, 113, 114, 115, 116, 117, 118, 119, 120]
set_option maxRecDepth 100000 in
set_option maxHeartbeats 4000000 in
theorem pm_yc5_ok : ∀ y ∈ pm_yc5, Cond.code (pm_nm y) (pm_by y) (pm_ml y) (pm_rty y) ∈ lw_tbl := List.forall_mem_cons.mpr ⟨List.mem_of_getElem? hc_101, List.forall_mem_cons.mpr ⟨List.mem_of_getElem? hc_102, List.forall_mem_cons.mpr ⟨List.mem_of_getElem? hc_103, List.forall_mem_cons.mpr ⟨List.mem_of_getElem? hc_104, List.forall_mem_cons.mpr ⟨List.mem_of_getElem? hc_105, List.forall_mem_cons.mpr ⟨List.mem_of_getElem? hc_106, List.forall_mem_cons.mpr ⟨List.mem_of_getElem? hc_107, List.forall_mem_cons.mpr ⟨List.mem_of_getElem? hc_108, List.forall_mem_cons.mpr ⟨List.mem_of_getElem? hc_109, List.forall_mem_cons.mpr ⟨List.mem_of_getElem? hc_110, List.forall_mem_cons.mpr ⟨List.mem_of_getElem? hc_111, List.forall_mem_cons.mpr ⟨List.mem_of_getElem? hc_112, List.forall_mem_cons.mpr ⟨List.mem_of_getElem? hc_113, List.forall_mem_cons.mpr ⟨List.mem_of_getElem? hc_114, List.forall_mem_cons.mpr ⟨List.mem_of_getElem? hc_115, List.forall_mem_cons.mpr ⟨List.mem_of_getElem? hc_116, List.forall_mem_cons.mpr ⟨List.mem_of_getElem? hc_117, List.forall_mem_cons.mpr ⟨List.mem_of_getElem? hc_118, List.forall_mem_cons.mpr ⟨List.mem_of_getElem? hc_119, List.forall_mem_cons.mpr ⟨List.mem_of_getElem? hc_120, fun _ h => absurd h List.not_mem_nil⟩⟩⟩⟩⟩⟩⟩⟩⟩⟩⟩⟩⟩⟩⟩⟩⟩⟩⟩⟩
def pm_yc6 : List Nat := [121, 122, 123, 124, 125, 126, 127, 128, 129, 130, 131, 132, 133, 134, 135, 136, 137, 138, 139, 140]
set_option maxRecDepth 100000 in
set_option maxHeartbeats 4000000 in
theorem pm_yc6_ok : ∀ y ∈ pm_yc6, Cond.code (pm_nm y) (pm_by y) (pm_ml y) (pm_rty y) ∈ lw_tbl := List.forall_mem_cons.mpr ⟨List.mem_of_getElem? hc_121, List.forall_mem_cons.mpr ⟨List.mem_of_getElem? hc_122, List.forall_mem_cons.mpr ⟨List.mem_of_getElem? hc_123, List.forall_mem_cons.mpr ⟨List.mem_of_getElem? hc_124, List.forall_mem_cons.mpr ⟨List.mem_of_getElem? hc_125, List.forall_mem_cons.mpr ⟨List.mem_of_getElem? hc_126, List.forall_mem_cons.mpr ⟨List.mem_of_getElem? hc_127, List.forall_mem_cons.mpr ⟨List.mem_of_getElem? hc_128, List.forall_mem_cons.mpr ⟨List.mem_of_getElem? hc_129, List.forall_mem_cons.mpr ⟨List.mem_of_getElem? hc_130, List.forall_mem_cons.mpr ⟨List.mem_of_getElem? hc_131, List.forall_mem_cons.mpr ⟨List.mem_of_getElem? hc_132, List.forall_mem_cons.mpr ⟨List.mem_of_getElem? hc_133, List.forall_mem_cons.mpr ⟨List.mem_of_getElem? hc_134, List.forall_mem_cons.mpr ⟨List.mem_of_getElem? hc_135, List.forall_mem_cons.mpr ⟨List.mem_of_getElem? hc_136, List.forall_mem_cons.mpr ⟨List.mem_of_getElem? hc_137, List.forall_mem_cons.mpr ⟨List.mem_of_getElem? hc_138, List.forall_mem_cons.mpr ⟨List.mem_of_getElem? hc_139, List.forall_mem_cons.mpr ⟨List.mem_of_getElem? hc_140, fun _ h => absurd h List.not_mem_nil⟩⟩⟩⟩⟩⟩⟩⟩⟩⟩⟩⟩⟩⟩⟩⟩⟩⟩⟩⟩
def pm_yc7 : List Nat := [141, 142, 143, 144, 145, 146, 147, 148, 149, 150, 151, 152, 153, 154, 155, 156, 157, 158, 159, 160]
set_option maxRecDepth 100000 in
set_option maxHeartbeats 4000000 in
theorem pm_yc7_ok : ∀ y ∈ pm_yc7, Cond.code (pm_nm y) (pm_by y) (pm_ml y) (pm_rty y) ∈ lw_tbl := List.forall_mem_cons.mpr ⟨List.mem_of_getElem? hc_141, List.forall_mem_cons.mpr ⟨List.mem_of_getElem? hc_142, List.forall_mem_cons.mpr ⟨List.mem_of_getElem? hc_143, List.forall_mem_cons.mpr ⟨List.mem_of_getElem? hc_144, List.forall_mem_cons.mpr ⟨List.mem_of_getElem? hc_145, List.forall_mem_cons.mpr ⟨List.mem_of_getElem? hc_146, List.forall_mem_cons.mpr ⟨List.mem_of_getElem? hc_147, List.forall_mem_cons.mpr ⟨List.mem_of_getElem? hc_148, List.forall_mem_cons.mpr ⟨List.mem_of_getElem? hc_149, List.forall_mem_cons.mpr ⟨List.mem_of_getElem? hc_150, List.forall_mem_cons.mpr ⟨List.mem_of_getElem? hc_151, List.forall_mem_cons.mpr ⟨List.mem_of_getElem? hc_152, List.forall_mem_cons.mpr ⟨List.mem_of_getElem? hc_153, List.forall_mem_cons.mpr ⟨List.mem_of_getElem? hc_154, List.forall_mem_cons.mpr ⟨List.mem_of_getElem? hc_155, List.forall_mem_cons.mpr ⟨List.mem_of_getElem? hc_156, List.forall_mem_cons.mpr ⟨List.mem_of_getElem? hc_157, List.forall_mem_cons.mpr ⟨List.mem_of_getElem? hc_158, List.forall_mem_cons.mpr ⟨List.mem_of_getElem? hc_159, List.forall_mem_cons.mpr ⟨List.mem_of_getElem? hc_160, fun _ h => absurd h List.not_mem_nil⟩⟩⟩⟩⟩⟩⟩⟩⟩⟩⟩⟩⟩⟩⟩⟩⟩⟩⟩⟩
def pm_yc8 : List Nat := [161, 162, 163, 164, 165, 166, 167, 168, 169, 170, 171, 172, 173, 174, 175, 176, 177, 178, 179, 180]
set_option maxRecDepth 100000 in
set_option maxHeartbeats 4000000 in
theorem pm_yc8_ok : ∀ y ∈ pm_yc8, Cond.code (pm_nm y) (pm_by y) (pm_ml y) (pm_rty y) ∈ lw_tbl := List.forall_mem_cons.mpr ⟨List.mem_of_getElem? hc_161, List.forall_mem_cons.mpr ⟨List.mem_of_getElem? hc_162, List.forall_mem_cons.mpr ⟨List.mem_of_getElem? hc_163, List.forall_mem_cons.mpr ⟨List.mem_of_getElem? hc_164, List.forall_mem_cons.mpr ⟨List.mem_of_getElem? hc_165, List.forall_mem_cons.mpr ⟨List.mem_of_getElem? hc_166, List.forall_mem_cons.mpr ⟨List.mem_of_getElem? hc_167, List.forall_mem_cons.mpr ⟨List.mem_of_getElem? hc_168, List.forall_mem_cons.mpr ⟨List.mem_of_getElem? hc_169, List.forall_mem_cons.mpr ⟨List.mem_of_getElem? hc_170, List.forall_mem_cons.mpr ⟨List.mem_of_getElem? hc_171, List.forall_mem_cons.mpr ⟨List.mem_of_getElem? hc_172, List.forall_mem_cons.mpr ⟨List.mem_of_getElem? hc_173, List.forall_mem_cons.mpr ⟨List.mem_of_getElem? hc_174, List.forall_mem_cons.mpr ⟨List.mem_of_getElem? hc_175, List.forall_mem_cons.mpr ⟨List.mem_of_getElem? hc_176, List.forall_mem_cons.mpr ⟨List.mem_of_getElem? hc_177, List.forall_mem_cons.mpr ⟨List.mem_of_getElem? hc_178, List.forall_mem_cons.mpr ⟨List.mem_of_getElem? hc_179, List.forall_mem_cons.mpr ⟨List.mem_of_getElem? hc_180, fun _ h => absurd h List.not_mem_nil⟩⟩⟩⟩⟩⟩⟩⟩⟩⟩⟩⟩⟩⟩⟩⟩⟩⟩⟩⟩
def pm_yc9 : List Nat := [181, 182, 183, 184, 185, 186, 187, 188, 189, 190]
set_option maxRecDepth 100000 in
set_option maxHeartbeats 4000000 in
theorem pm_yc9_ok : ∀ y ∈ pm_yc9, Cond.code (pm_nm y) (pm_by y) (pm_ml y) (pm_rty y) ∈ lw_tbl := List.forall_mem_cons.mpr ⟨List.mem_of_getElem? hc_181, List.forall_mem_cons.mpr ⟨List.mem_of_getElem? hc_182, List.forall_mem_cons.mpr ⟨List.mem_of_getElem? hc_183, List.forall_mem_cons.mpr ⟨List.mem_of_getElem? hc_184, List.forall_mem_cons.mpr ⟨List.mem_of_getElem? hc_185, List.forall_mem_cons.mpr ⟨List.mem_of_getElem? hc_186, List.forall_mem_cons.mpr ⟨List.mem_of_getElem? hc_187, List.forall_mem_cons.mpr ⟨List.mem_of_getElem? hc_188, List.forall_mem_cons.mpr ⟨List.mem_of_getElem? hc_189, List.forall_mem_cons.mpr ⟨List.mem_of_getElem? hc_190, fun _ h => absurd h List.not_mem_nil⟩⟩⟩⟩⟩⟩⟩⟩⟩⟩
def pm_yl : List Nat := pm_yc0 ++ (pm_yc1 ++ (pm_yc2 ++ (pm_yc3 ++ (pm_yc4 ++ (pm_yc5 ++ (pm_yc6 ++ (pm_yc7 ++ (pm_yc8 ++ (pm_yc9)))))))))
set_option maxRecDepth 100000 in
set_option maxHeartbeats 4000000 in
theorem pm_yl_ok : ∀ y ∈ pm_yl, Cond.code (pm_nm y) (pm_by y) (pm_ml y) (pm_rty y) ∈ lw_tbl := List.forall_mem_append.mpr ⟨pm_yc0_ok, List.forall_mem_append.mpr ⟨pm_yc1_ok, List.forall_mem_append.mpr ⟨pm_yc2_ok, List.forall_mem_append.mpr ⟨pm_yc3_ok, List.forall_mem_append.mpr ⟨pm_yc4_ok, List.forall_mem_append.mpr ⟨pm_yc5_ok, List.forall_mem_append.mpr ⟨pm_yc6_ok, List.forall_mem_append.mpr ⟨pm_yc7_ok, List.forall_mem_append.mpr ⟨pm_yc8_ok, pm_yc9_ok⟩⟩⟩⟩⟩⟩⟩⟩⟩
set_option maxRecDepth 100000 in
set_option maxHeartbeats 4000000 in
theorem pm_yl_ys : pm_ys.all (fun e => pm_yl.contains e.1) = true := by decide +kernel
set_option maxRecDepth 100000 in
set_option maxHeartbeats 4000000 in
theorem pm_in0 : ∀ w ∈ u_ws RX0 TX0 6, w ∈ lw_tbl ∧ goodWord w = true := by decide +kernel
set_option maxRecDepth 100000 in
set_option maxHeartbeats 4000000 in
theorem pm_in1 : ∀ w ∈ u_ws RX1 TX1 2, w ∈ lw_tbl ∧ goodWord w = true := by decide +kernel
set_option maxRecDepth 100000 in
set_option maxHeartbeats 4000000 in
theorem pm_in2 : ∀ w ∈ u_ws RX2 TX2 6, w ∈ lw_tbl ∧ goodWord w = true := by decide +kernel
set_option maxRecDepth 100000 in
set_option maxHeartbeats 4000000 in
theorem pm_in3 : ∀ w ∈ u_ws RX3 TX3 7, w ∈ lw_tbl ∧ goodWord w = true := by decide +kernel
set_option maxRecDepth 100000 in
set_option maxHeartbeats 4000000 in
theorem pm_in4 : ∀ w ∈ u_ws RX4 TX4 8, w ∈ lw_tbl ∧ goodWord w = true := by decide +kernel
set_option maxRecDepth 100000 in
set_option maxHeartbeats 4000000 in
theorem pm_in5 : ∀ w ∈ u_ws RX5 TX5 3, w ∈ lw_tbl ∧ goodWord w = true := by decide +kernel
set_option maxRecDepth 100000 in
set_option maxHeartbeats 4000000 in
theorem pm_in6 : ∀ w ∈ u_ws RX6 TX6 7, w ∈ lw_tbl ∧ goodWord w = true := by decide +kernel
set_option maxRecDepth 100000 in
set_option maxHeartbeats 4000000 in
theorem pm_in7 : ∀ w ∈ u_ws RX7 TX7 4, w ∈ lw_tbl ∧ goodWord w = true := by decide +kernel
set_option maxRecDepth 100000 in
set_option maxHeartbeats 4000000 in
theorem pm_in8 : ∀ w ∈ u_ws RX8 TX8 3, w ∈ lw_tbl ∧ goodWord w = true := by decide +kernel
set_option maxRecDepth 100000 in
set_option maxHeartbeats 4000000 in
theorem pm_in9 : ∀ w ∈ u_ws RX9 TX9 3, w ∈ lw_tbl ∧ goodWord w = true := by decide +kernel
set_option maxRecDepth 100000 in
set_option maxHeartbeats 4000000 in
theorem pm_in10 : ∀ w ∈ u_ws RX10 TX10 7, w ∈ lw_tbl ∧ goodWord w = true := by decide +kernel
set_option maxRecDepth 100000 in
set_option maxHeartbeats 4000000 in
theorem pm_in11 : ∀ w ∈ u_ws RX11 TX11 17, w ∈ lw_tbl ∧ goodWord w = true := by decide +kernel
set_option maxRecDepth 100000 in
set_option maxHeartbeats 4000000 in
theorem pm_in12 : ∀ w ∈ u_ws RX12 TX12 39, w ∈ lw_tbl ∧ goodWord w = true := by decide +kernel
