/-! ===== the law's body, call by call ===== -/
def bL_law : PT := [(0, .new 8, 3), (3, .dup, 1), (4, .invokespecial 117, 3), (7, .astore_n 1, 1), (8, .new 118, 3), (11, .dup, 1), (12, .invokespecial 120, 3), (15, .astore_n 2, 1), (16, .iconst 1, 1), (17, .newarray .long, 2), (19, .astore_n 3, 1), (20, .iconst 0, 1), (21, .istore 4, 2), (23, .iload 4, 2), (25, .aload_n 0, 1), (26, .arraylength, 1), (27, .iconst 4, 1), (28, .isub, 1), (29, .if_icmp .gt 2225, 3), (32, .aload_n 0, 1), (33, .iload 4, 2), (35, .iaload, 1), (36, .bipush 63, 2), (38, .iand, 1), (39, .tableswitch 2209 0 35 #[157, 217, 285, 353, 421, 489, 569, 625, 681, 737, 781, 861, 929, 997, 1053, 1121, 1169, 1229, 1285, 1341, 1385, 1398, 1411, 1479, 1547, 1603, 1659, 1715, 1771, 1812, 1868, 1936, 1992, 2048, 2061, 2129], 157), (196, .aload_n 1, 1), (197, .aload_n 0, 1), (198, .iload 4, 2), (200, .iconst 1, 1), (201, .iadd, 1), (202, .iaload, 1), (203, .aload_n 0, 1), (204, .iload 4, 2), (206, .iconst 2, 1), (207, .iadd, 1), (208, .iaload, 1), (209, .aload_n 0, 1), (210, .iload 4, 2), (212, .iconst 3, 1), (213, .iadd, 1), (214, .iaload, 1), (215, .invokestatic 121, 3), (218, .istore 5, 2), (220, .aload_n 2, 1), (221, .aload_n 0, 1), (222, .iload 4, 2), (224, .iconst 1, 1), (225, .iadd, 1), (226, .iaload, 1), (227, .aload_n 0, 1), (228, .iload 4, 2), (230, .iconst 2, 1), (231, .iadd, 1), (232, .iaload, 1), (233, .aload_n 0, 1), (234, .iload 4, 2), (236, .iconst 3, 1), (237, .iadd, 1), (238, .iaload, 1), (239, .invokevirtual 126, 3), (242, .aload_n 2, 1), (243, .invokevirtual 127, 3), (246, .iload 5, 2), (248, .if_icmp .eq 5, 3), (251, .iconst 0, 1), (252, .ireturn, 1), (253, .goto 1995, 3), (256, .aload_n 1, 1), (257, .aload_n 0, 1), (258, .iload 4, 2), (260, .iconst 1, 1), (261, .iadd, 1), (262, .iaload, 1), (263, .aload_n 0, 1), (264, .iload 4, 2), (266, .iconst 2, 1), (267, .iadd, 1), (268, .iaload, 1), (269, .aload_n 3, 1), (270, .invokestatic 130, 3), (273, .istore 5, 2), (275, .aload_n 2, 1), (276, .aload_n 0, 1), (277, .iload 4, 2), (279, .iconst 1, 1), (280, .iadd, 1), (281, .iaload, 1), (282, .aload_n 0, 1), (283, .iload 4, 2), (285, .iconst 2, 1), (286, .iadd, 1), (287, .iaload, 1), (288, .invokevirtual 133, 3), (291, .istore 6, 2), (293, .aload_n 2, 1), (294, .invokevirtual 127, 3), (297, .iload 5, 2), (299, .if_icmp .eq 5, 3), (302, .iconst 0, 1), (303, .ireturn, 1), (304, .iload 5, 2), (306, .ifCond .ne 15, 3), (309, .aload_n 3, 1), (310, .iconst 0, 1), (311, .laload, 1), (312, .iload 6, 2), (314, .i2l, 1), (315, .lcmp, 1), (316, .ifCond .eq 5, 3), (319, .iconst 0, 1), (320, .ireturn, 1), (321, .goto 1927, 3), (324, .aload_n 1, 1), (325, .aload_n 0, 1), (326, .iload 4, 2), (328, .iconst 1, 1), (329, .iadd, 1), (330, .iaload, 1), (331, .aload_n 0, 1), (332, .iload 4, 2), (334, .iconst 2, 1), (335, .iadd, 1), (336, .iaload, 1), (337, .aload_n 3, 1), (338, .invokestatic 134, 3), (341, .istore 5, 2), (343, .aload_n 2, 1), (344, .aload_n 0, 1), (345, .iload 4, 2), (347, .iconst 1, 1), (348, .iadd, 1), (349, .iaload, 1), (350, .aload_n 0, 1), (351, .iload 4, 2), (353, .iconst 2, 1), (354, .iadd, 1), (355, .iaload, 1), (356, .invokevirtual 136, 3), (359, .istore 6, 2), (361, .aload_n 2, 1), (362, .invokevirtual 127, 3), (365, .iload 5, 2), (367, .if_icmp .eq 5, 3), (370, .iconst 0, 1), (371, .ireturn, 1), (372, .iload 5, 2), (374, .ifCond .ne 15, 3), (377, .aload_n 3, 1), (378, .iconst 0, 1), (379, .laload, 1), (380, .iload 6, 2), (382, .i2l, 1), (383, .lcmp, 1), (384, .ifCond .eq 5, 3), (387, .iconst 0, 1), (388, .ireturn, 1), (389, .goto 1859, 3), (392, .aload_n 1, 1), (393, .aload_n 0, 1), (394, .iload 4, 2), (396, .iconst 1, 1), (397, .iadd, 1), (398, .iaload, 1), (399, .aload_n 0, 1), (400, .iload 4, 2), (402, .iconst 2, 1), (403, .iadd, 1), (404, .iaload, 1), (405, .aload_n 3, 1), (406, .invokestatic 137, 3), (409, .istore 5, 2), (411, .aload_n 2, 1), (412, .aload_n 0, 1), (413, .iload 4, 2), (415, .iconst 1, 1), (416, .iadd, 1), (417, .iaload, 1), (418, .aload_n 0, 1), (419, .iload 4, 2), (421, .iconst 2, 1), (422, .iadd, 1), (423, .iaload, 1), (424, .invokevirtual 139, 3), (427, .istore 6, 2), (429, .aload_n 2, 1), (430, .invokevirtual 127, 3), (433, .iload 5, 2), (435, .if_icmp .eq 5, 3), (438, .iconst 0, 1), (439, .ireturn, 1), (440, .iload 5, 2), (442, .ifCond .ne 15, 3), (445, .aload_n 3, 1), (446, .iconst 0, 1), (447, .laload, 1), (448, .iload 6, 2), (450, .i2l, 1), (451, .lcmp, 1), (452, .ifCond .eq 5, 3), (455, .iconst 0, 1), (456, .ireturn, 1), (457, .goto 1791, 3), (460, .aload_n 1, 1), (461, .aload_n 0, 1), (462, .iload 4, 2), (464, .iconst 1, 1), (465, .iadd, 1), (466, .iaload, 1), (467, .aload_n 0, 1), (468, .iload 4, 2), (470, .iconst 2, 1), (471, .iadd, 1), (472, .iaload, 1), (473, .aload_n 3, 1), (474, .invokestatic 140, 3), (477, .istore 5, 2), (479, .aload_n 2, 1), (480, .aload_n 0, 1), (481, .iload 4, 2), (483, .iconst 1, 1), (484, .iadd, 1), (485, .iaload, 1), (486, .aload_n 0, 1), (487, .iload 4, 2), (489, .iconst 2, 1), (490, .iadd, 1), (491, .iaload, 1), (492, .invokevirtual 142, 3), (495, .istore 6, 2), (497, .aload_n 2, 1), (498, .invokevirtual 127, 3), (501, .iload 5, 2), (503, .if_icmp .eq 5, 3), (506, .iconst 0, 1), (507, .ireturn, 1), (508, .iload 5, 2), (510, .ifCond .ne 15, 3), (513, .aload_n 3, 1), (514, .iconst 0, 1), (515, .laload, 1), (516, .iload 6, 2), (518, .i2l, 1), (519, .lcmp, 1), (520, .ifCond .eq 5, 3), (523, .iconst 0, 1), (524, .ireturn, 1), (525, .goto 1723, 3), (528, .aload_n 1, 1), (529, .aload_n 0, 1), (530, .iload 4, 2), (532, .iconst 1, 1), (533, .iadd, 1), (534, .iaload, 1), (535, .aload_n 0, 1), (536, .iload 4, 2), (538, .iconst 2, 1), (539, .iadd, 1), (540, .iaload, 1), (541, .aload_n 0, 1), (542, .iload 4, 2), (544, .iconst 3, 1), (545, .iadd, 1), (546, .iaload, 1), (547, .aload_n 3, 1), (548, .invokestatic 143, 3), (551, .istore 5, 2), (553, .aload_n 2, 1), (554, .aload_n 0, 1), (555, .iload 4, 2), (557, .iconst 1, 1), (558, .iadd, 1), (559, .iaload, 1), (560, .aload_n 0, 1), (561, .iload 4, 2), (563, .iconst 2, 1), (564, .iadd, 1), (565, .iaload, 1), (566, .aload_n 0, 1), (567, .iload 4, 2), (569, .iconst 3, 1), (570, .iadd, 1), (571, .iaload, 1), (572, .invokevirtual 146, 3), (575, .istore 6, 2), (577, .aload_n 2, 1), (578, .invokevirtual 127, 3), (581, .iload 5, 2), (583, .if_icmp .eq 5, 3), (586, .iconst 0, 1), (587, .ireturn, 1), (588, .iload 5, 2), (590, .ifCond .ne 15, 3), (593, .aload_n 3, 1), (594, .iconst 0, 1), (595, .laload, 1), (596, .iload 6, 2), (598, .i2l, 1), (599, .lcmp, 1), (600, .ifCond .eq 5, 3), (603, .iconst 0, 1), (604, .ireturn, 1), (605, .goto 1643, 3), (608, .aload_n 1, 1), (609, .aload_n 0, 1), (610, .iload 4, 2), (612, .iconst 1, 1), (613, .iadd, 1), (614, .iaload, 1), (615, .aload_n 3, 1), (616, .invokestatic 147, 3), (619, .istore 5, 2), (621, .aload_n 2, 1), (622, .aload_n 0, 1), (623, .iload 4, 2), (625, .iconst 1, 1), (626, .iadd, 1), (627, .iaload, 1), (628, .invokevirtual 150, 3), (631, .istore 6, 2), (633, .aload_n 2, 1), (634, .invokevirtual 127, 3), (637, .iload 5, 2), (639, .if_icmp .eq 5, 3), (642, .iconst 0, 1), (643, .ireturn, 1), (644, .iload 5, 2), (646, .ifCond .ne 15, 3), (649, .aload_n 3, 1), (650, .iconst 0, 1), (651, .laload, 1), (652, .iload 6, 2), (654, .i2l, 1), (655, .lcmp, 1), (656, .ifCond .eq 5, 3), (659, .iconst 0, 1), (660, .ireturn, 1), (661, .goto 1587, 3), (664, .aload_n 1, 1), (665, .aload_n 0, 1), (666, .iload 4, 2), (668, .iconst 1, 1), (669, .iadd, 1), (670, .iaload, 1), (671, .aload_n 3, 1), (672, .invokestatic 151, 3), (675, .istore 5, 2), (677, .aload_n 2, 1), (678, .aload_n 0, 1), (679, .iload 4, 2), (681, .iconst 1, 1), (682, .iadd, 1), (683, .iaload, 1), (684, .invokevirtual 153, 3), (687, .istore 6, 2), (689, .aload_n 2, 1), (690, .invokevirtual 127, 3), (693, .iload 5, 2), (695, .if_icmp .eq 5, 3), (698, .iconst 0, 1), (699, .ireturn, 1), (700, .iload 5, 2), (702, .ifCond .ne 15, 3), (705, .aload_n 3, 1), (706, .iconst 0, 1), (707, .laload, 1), (708, .iload 6, 2), (710, .i2l, 1), (711, .lcmp, 1), (712, .ifCond .eq 5, 3), (715, .iconst 0, 1), (716, .ireturn, 1), (717, .goto 1531, 3), (720, .aload_n 1, 1), (721, .aload_n 0, 1), (722, .iload 4, 2), (724, .iconst 1, 1), (725, .iadd, 1), (726, .iaload, 1), (727, .aload_n 3, 1), (728, .invokestatic 154, 3), (731, .istore 5, 2), (733, .aload_n 2, 1), (734, .aload_n 0, 1), (735, .iload 4, 2), (737, .iconst 1, 1), (738, .iadd, 1), (739, .iaload, 1), (740, .invokevirtual 156, 3), (743, .istore 6, 2), (745, .aload_n 2, 1), (746, .invokevirtual 127, 3), (749, .iload 5, 2), (751, .if_icmp .eq 5, 3), (754, .iconst 0, 1), (755, .ireturn, 1), (756, .iload 5, 2), (758, .ifCond .ne 15, 3), (761, .aload_n 3, 1), (762, .iconst 0, 1), (763, .laload, 1), (764, .iload 6, 2), (766, .i2l, 1), (767, .lcmp, 1), (768, .ifCond .eq 5, 3), (771, .iconst 0, 1), (772, .ireturn, 1), (773, .goto 1475, 3), (776, .aload_n 1, 1), (777, .aload_n 3, 1), (778, .invokestatic 157, 3), (781, .istore 5, 2), (783, .aload_n 2, 1), (784, .invokevirtual 160, 3), (787, .istore 6, 2), (789, .aload_n 2, 1), (790, .invokevirtual 127, 3), (793, .iload 5, 2), (795, .if_icmp .eq 5, 3), (798, .iconst 0, 1), (799, .ireturn, 1), (800, .iload 5, 2), (802, .ifCond .ne 15, 3), (805, .aload_n 3, 1), (806, .iconst 0, 1), (807, .laload, 1), (808, .iload 6, 2), (810, .i2l, 1), (811, .lcmp, 1), (812, .ifCond .eq 5, 3), (815, .iconst 0, 1), (816, .ireturn, 1), (817, .goto 1431, 3), (820, .aload_n 1, 1), (821, .aload_n 0, 1), (822, .iload 4, 2), (824, .iconst 1, 1), (825, .iadd, 1), (826, .iaload, 1), (827, .aload_n 0, 1), (828, .iload 4, 2), (830, .iconst 2, 1), (831, .iadd, 1), (832, .iaload, 1), (833, .aload_n 0, 1), (834, .iload 4, 2), (836, .iconst 3, 1), (837, .iadd, 1), (838, .iaload, 1), (839, .aload_n 3, 1), (840, .invokestatic 161, 3), (843, .istore 5, 2), (845, .aload_n 2, 1), (846, .aload_n 0, 1), (847, .iload 4, 2), (849, .iconst 1, 1), (850, .iadd, 1), (851, .iaload, 1), (852, .aload_n 0, 1), (853, .iload 4, 2), (855, .iconst 2, 1), (856, .iadd, 1), (857, .iaload, 1), (858, .aload_n 0, 1), (859, .iload 4, 2), (861, .iconst 3, 1), (862, .iadd, 1), (863, .iaload, 1), (864, .invokevirtual 163, 3), (867, .istore 6, 2), (869, .aload_n 2, 1), (870, .invokevirtual 127, 3), (873, .iload 5, 2), (875, .if_icmp .eq 5, 3), (878, .iconst 0, 1), (879, .ireturn, 1), (880, .iload 5, 2), (882, .ifCond .ne 15, 3), (885, .aload_n 3, 1), (886, .iconst 0, 1), (887, .laload, 1), (888, .iload 6, 2), (890, .i2l, 1), (891, .lcmp, 1), (892, .ifCond .eq 5, 3), (895, .iconst 0, 1), (896, .ireturn, 1), (897, .goto 1351, 3), (900, .aload_n 1, 1), (901, .aload_n 0, 1), (902, .iload 4, 2), (904, .iconst 1, 1), (905, .iadd, 1), (906, .iaload, 1), (907, .aload_n 0, 1), (908, .iload 4, 2), (910, .iconst 2, 1), (911, .iadd, 1), (912, .iaload, 1), (913, .aload_n 3, 1), (914, .invokestatic 164, 3), (917, .istore 5, 2), (919, .aload_n 2, 1), (920, .aload_n 0, 1), (921, .iload 4, 2), (923, .iconst 1, 1), (924, .iadd, 1), (925, .iaload, 1), (926, .aload_n 0, 1), (927, .iload 4, 2), (929, .iconst 2, 1), (930, .iadd, 1), (931, .iaload, 1), (932, .invokevirtual 166, 3), (935, .istore 6, 2), (937, .aload_n 2, 1), (938, .invokevirtual 127, 3), (941, .iload 5, 2), (943, .if_icmp .eq 5, 3), (946, .iconst 0, 1), (947, .ireturn, 1), (948, .iload 5, 2), (950, .ifCond .ne 15, 3), (953, .aload_n 3, 1), (954, .iconst 0, 1), (955, .laload, 1), (956, .iload 6, 2), (958, .i2l, 1), (959, .lcmp, 1), (960, .ifCond .eq 5, 3), (963, .iconst 0, 1), (964, .ireturn, 1), (965, .goto 1283, 3), (968, .aload_n 1, 1), (969, .aload_n 0, 1), (970, .iload 4, 2), (972, .iconst 1, 1), (973, .iadd, 1), (974, .iaload, 1), (975, .aload_n 0, 1), (976, .iload 4, 2), (978, .iconst 2, 1), (979, .iadd, 1), (980, .iaload, 1), (981, .aload_n 3, 1), (982, .invokestatic 167, 3), (985, .istore 5, 2), (987, .aload_n 2, 1), (988, .aload_n 0, 1), (989, .iload 4, 2), (991, .iconst 1, 1), (992, .iadd, 1), (993, .iaload, 1), (994, .aload_n 0, 1), (995, .iload 4, 2), (997, .iconst 2, 1), (998, .iadd, 1), (999, .iaload, 1), (1000, .invokevirtual 169, 3), (1003, .istore 6, 2), (1005, .aload_n 2, 1), (1006, .invokevirtual 127, 3), (1009, .iload 5, 2), (1011, .if_icmp .eq 5, 3), (1014, .iconst 0, 1), (1015, .ireturn, 1), (1016, .iload 5, 2), (1018, .ifCond .ne 15, 3), (1021, .aload_n 3, 1), (1022, .iconst 0, 1), (1023, .laload, 1), (1024, .iload 6, 2), (1026, .i2l, 1), (1027, .lcmp, 1), (1028, .ifCond .eq 5, 3), (1031, .iconst 0, 1), (1032, .ireturn, 1), (1033, .goto 1215, 3), (1036, .aload_n 1, 1), (1037, .aload_n 0, 1), (1038, .iload 4, 2), (1040, .iconst 1, 1), (1041, .iadd, 1), (1042, .iaload, 1), (1043, .aload_n 3, 1), (1044, .invokestatic 170, 3), (1047, .istore 5, 2), (1049, .aload_n 2, 1), (1050, .aload_n 0, 1), (1051, .iload 4, 2), (1053, .iconst 1, 1), (1054, .iadd, 1), (1055, .iaload, 1), (1056, .invokevirtual 172, 3), (1059, .istore 6, 2), (1061, .aload_n 2, 1), (1062, .invokevirtual 127, 3), (1065, .iload 5, 2), (1067, .if_icmp .eq 5, 3), (1070, .iconst 0, 1), (1071, .ireturn, 1), (1072, .iload 5, 2), (1074, .ifCond .ne 15, 3), (1077, .aload_n 3, 1), (1078, .iconst 0, 1), (1079, .laload, 1), (1080, .iload 6, 2), (1082, .i2l, 1), (1083, .lcmp, 1), (1084, .ifCond .eq 5, 3), (1087, .iconst 0, 1), (1088, .ireturn, 1), (1089, .goto 1159, 3), (1092, .aload_n 1, 1), (1093, .aload_n 0, 1), (1094, .iload 4, 2), (1096, .iconst 1, 1), (1097, .iadd, 1), (1098, .iaload, 1), (1099, .aload_n 0, 1), (1100, .iload 4, 2), (1102, .iconst 2, 1), (1103, .iadd, 1), (1104, .iaload, 1), (1105, .aload_n 3, 1), (1106, .invokestatic 173, 3), (1109, .istore 5, 2), (1111, .aload_n 2, 1), (1112, .aload_n 0, 1), (1113, .iload 4, 2), (1115, .iconst 1, 1), (1116, .iadd, 1), (1117, .iaload, 1), (1118, .aload_n 0, 1), (1119, .iload 4, 2), (1121, .iconst 2, 1), (1122, .iadd, 1), (1123, .iaload, 1), (1124, .invokevirtual 175, 3), (1127, .istore 6, 2), (1129, .aload_n 2, 1), (1130, .invokevirtual 127, 3), (1133, .iload 5, 2), (1135, .if_icmp .eq 5, 3), (1138, .iconst 0, 1), (1139, .ireturn, 1), (1140, .iload 5, 2), (1142, .ifCond .ne 15, 3), (1145, .aload_n 3, 1), (1146, .iconst 0, 1), (1147, .laload, 1), (1148, .iload 6, 2), (1150, .i2l, 1), (1151, .lcmp, 1), (1152, .ifCond .eq 5, 3), (1155, .iconst 0, 1), (1156, .ireturn, 1), (1157, .goto 1091, 3), (1160, .aload_n 1, 1), (1161, .aload_n 0, 1), (1162, .iload 4, 2), (1164, .iconst 1, 1), (1165, .iadd, 1), (1166, .iaload, 1), (1167, .aload_n 0, 1), (1168, .iload 4, 2), (1170, .iconst 2, 1), (1171, .iadd, 1), (1172, .iaload, 1), (1173, .invokestatic 176, 3), (1176, .istore 5, 2), (1178, .aload_n 2, 1), (1179, .aload_n 0, 1), (1180, .iload 4, 2), (1182, .iconst 1, 1), (1183, .iadd, 1), (1184, .iaload, 1), (1185, .aload_n 0, 1), (1186, .iload 4, 2), (1188, .iconst 2, 1), (1189, .iadd, 1), (1190, .iaload, 1), (1191, .invokevirtual 179, 3), (1194, .aload_n 2, 1), (1195, .invokevirtual 127, 3), (1198, .iload 5, 2), (1200, .if_icmp .eq 5, 3), (1203, .iconst 0, 1), (1204, .ireturn, 1), (1205, .goto 1043, 3), (1208, .aload_n 1, 1), (1209, .aload_n 0, 1), (1210, .iload 4, 2), (1212, .iconst 1, 1), (1213, .iadd, 1), (1214, .iaload, 1), (1215, .aload_n 0, 1), (1216, .iload 4, 2), (1218, .iconst 2, 1), (1219, .iadd, 1), (1220, .iaload, 1), (1221, .aload_n 0, 1), (1222, .iload 4, 2), (1224, .iconst 3, 1), (1225, .iadd, 1), (1226, .iaload, 1), (1227, .invokestatic 180, 3), (1230, .istore 5, 2), (1232, .aload_n 2, 1), (1233, .aload_n 0, 1), (1234, .iload 4, 2), (1236, .iconst 1, 1), (1237, .iadd, 1), (1238, .iaload, 1), (1239, .aload_n 0, 1), (1240, .iload 4, 2), (1242, .iconst 2, 1), (1243, .iadd, 1), (1244, .iaload, 1), (1245, .aload_n 0, 1), (1246, .iload 4, 2), (1248, .iconst 3, 1), (1249, .iadd, 1), (1250, .iaload, 1), (1251, .invokevirtual 182, 3), (1254, .aload_n 2, 1), (1255, .invokevirtual 127, 3), (1258, .iload 5, 2), (1260, .if_icmp .eq 5, 3), (1263, .iconst 0, 1), (1264, .ireturn, 1), (1265, .goto 983, 3), (1268, .aload_n 1, 1), (1269, .aload_n 0, 1), (1270, .iload 4, 2), (1272, .iconst 1, 1), (1273, .iadd, 1), (1274, .iaload, 1), (1275, .aload_n 3, 1), (1276, .invokestatic 183, 3), (1279, .istore 5, 2), (1281, .aload_n 2, 1), (1282, .aload_n 0, 1), (1283, .iload 4, 2), (1285, .iconst 1, 1), (1286, .iadd, 1), (1287, .iaload, 1), (1288, .invokevirtual 185, 3), (1291, .istore 6, 2), (1293, .aload_n 2, 1), (1294, .invokevirtual 127, 3), (1297, .iload 5, 2), (1299, .if_icmp .eq 5, 3), (1302, .iconst 0, 1), (1303, .ireturn, 1), (1304, .iload 5, 2), (1306, .ifCond .ne 15, 3), (1309, .aload_n 3, 1), (1310, .iconst 0, 1), (1311, .laload, 1), (1312, .iload 6, 2), (1314, .i2l, 1), (1315, .lcmp, 1), (1316, .ifCond .eq 5, 3), (1319, .iconst 0, 1), (1320, .ireturn, 1), (1321, .goto 927, 3), (1324, .aload_n 1, 1), (1325, .aload_n 0, 1), (1326, .iload 4, 2), (1328, .iconst 1, 1), (1329, .iadd, 1), (1330, .iaload, 1), (1331, .aload_n 3, 1), (1332, .invokestatic 186, 3), (1335, .istore 5, 2), (1337, .aload_n 2, 1), (1338, .aload_n 0, 1), (1339, .iload 4, 2), (1341, .iconst 1, 1), (1342, .iadd, 1), (1343, .iaload, 1), (1344, .invokevirtual 188, 3), (1347, .istore 6, 2), (1349, .aload_n 2, 1), (1350, .invokevirtual 127, 3), (1353, .iload 5, 2), (1355, .if_icmp .eq 5, 3), (1358, .iconst 0, 1), (1359, .ireturn, 1), (1360, .iload 5, 2), (1362, .ifCond .ne 15, 3), (1365, .aload_n 3, 1), (1366, .iconst 0, 1), (1367, .laload, 1), (1368, .iload 6, 2), (1370, .i2l, 1), (1371, .lcmp, 1), (1372, .ifCond .eq 5, 3), (1375, .iconst 0, 1), (1376, .ireturn, 1), (1377, .goto 871, 3), (1380, .aload_n 1, 1), (1381, .aload_n 3, 1), (1382, .invokestatic 189, 3), (1385, .istore 5, 2), (1387, .aload_n 2, 1), (1388, .invokevirtual 191, 3), (1391, .istore 6, 2), (1393, .aload_n 2, 1), (1394, .invokevirtual 127, 3), (1397, .iload 5, 2), (1399, .if_icmp .eq 5, 3), (1402, .iconst 0, 1), (1403, .ireturn, 1), (1404, .iload 5, 2), (1406, .ifCond .ne 15, 3), (1409, .aload_n 3, 1), (1410, .iconst 0, 1), (1411, .laload, 1), (1412, .iload 6, 2), (1414, .i2l, 1), (1415, .lcmp, 1), (1416, .ifCond .eq 5, 3), (1419, .iconst 0, 1), (1420, .ireturn, 1), (1421, .goto 827, 3), (1424, .aload_n 1, 1), (1425, .invokevirtual 192, 3), (1428, .aload_n 2, 1), (1429, .invokevirtual 195, 3), (1432, .if_icmp .eq 816, 3), (1435, .iconst 0, 1), (1436, .ireturn, 1), (1437, .aload_n 1, 1), (1438, .invokevirtual 196, 3), (1441, .aload_n 2, 1), (1442, .invokevirtual 199, 3), (1445, .if_icmp .eq 803, 3), (1448, .iconst 0, 1), (1449, .ireturn, 1), (1450, .aload_n 1, 1), (1451, .aload_n 0, 1), (1452, .iload 4, 2), (1454, .iconst 1, 1), (1455, .iadd, 1), (1456, .iaload, 1), (1457, .aload_n 0, 1), (1458, .iload 4, 2), (1460, .iconst 2, 1), (1461, .iadd, 1), (1462, .iaload, 1), (1463, .aload_n 3, 1), (1464, .invokestatic 200, 3), (1467, .istore 5, 2), (1469, .aload_n 2, 1), (1470, .aload_n 0, 1), (1471, .iload 4, 2), (1473, .iconst 1, 1), (1474, .iadd, 1), (1475, .iaload, 1), (1476, .aload_n 0, 1), (1477, .iload 4, 2), (1479, .iconst 2, 1), (1480, .iadd, 1), (1481, .iaload, 1), (1482, .invokevirtual 202, 3), (1485, .istore 6, 2), (1487, .aload_n 2, 1), (1488, .invokevirtual 127, 3), (1491, .iload 5, 2), (1493, .if_icmp .eq 5, 3), (1496, .iconst 0, 1), (1497, .ireturn, 1), (1498, .iload 5, 2), (1500, .ifCond .ne 15, 3), (1503, .aload_n 3, 1), (1504, .iconst 0, 1), (1505, .laload, 1), (1506, .iload 6, 2), (1508, .i2l, 1), (1509, .lcmp, 1), (1510, .ifCond .eq 5, 3), (1513, .iconst 0, 1), (1514, .ireturn, 1), (1515, .goto 733, 3), (1518, .aload_n 1, 1), (1519, .aload_n 0, 1), (1520, .iload 4, 2), (1522, .iconst 1, 1), (1523, .iadd, 1), (1524, .iaload, 1), (1525, .aload_n 0, 1), (1526, .iload 4, 2), (1528, .iconst 2, 1), (1529, .iadd, 1), (1530, .iaload, 1), (1531, .aload_n 3, 1), (1532, .invokestatic 203, 3), (1535, .istore 5, 2), (1537, .aload_n 2, 1), (1538, .aload_n 0, 1), (1539, .iload 4, 2), (1541, .iconst 1, 1), (1542, .iadd, 1), (1543, .iaload, 1), (1544, .aload_n 0, 1), (1545, .iload 4, 2), (1547, .iconst 2, 1), (1548, .iadd, 1), (1549, .iaload, 1), (1550, .invokevirtual 205, 3), (1553, .istore 6, 2), (1555, .aload_n 2, 1), (1556, .invokevirtual 127, 3), (1559, .iload 5, 2), (1561, .if_icmp .eq 5, 3), (1564, .iconst 0, 1), (1565, .ireturn, 1), (1566, .iload 5, 2), (1568, .ifCond .ne 15, 3), (1571, .aload_n 3, 1), (1572, .iconst 0, 1), (1573, .laload, 1), (1574, .iload 6, 2), (1576, .i2l, 1), (1577, .lcmp, 1), (1578, .ifCond .eq 5, 3), (1581, .iconst 0, 1), (1582, .ireturn, 1), (1583, .goto 665, 3), (1586, .aload_n 1, 1), (1587, .aload_n 0, 1), (1588, .iload 4, 2), (1590, .iconst 1, 1), (1591, .iadd, 1), (1592, .iaload, 1), (1593, .aload_n 3, 1), (1594, .invokestatic 206, 3), (1597, .istore 5, 2), (1599, .aload_n 2, 1), (1600, .aload_n 0, 1), (1601, .iload 4, 2), (1603, .iconst 1, 1), (1604, .iadd, 1), (1605, .iaload, 1), (1606, .invokevirtual 208, 3), (1609, .istore 6, 2), (1611, .aload_n 2, 1), (1612, .invokevirtual 127, 3), (1615, .iload 5, 2), (1617, .if_icmp .eq 5, 3), (1620, .iconst 0, 1), (1621, .ireturn, 1), (1622, .iload 5, 2), (1624, .ifCond .ne 15, 3), (1627, .aload_n 3, 1), (1628, .iconst 0, 1), (1629, .laload, 1), (1630, .iload 6, 2), (1632, .i2l, 1), (1633, .lcmp, 1), (1634, .ifCond .eq 5, 3), (1637, .iconst 0, 1), (1638, .ireturn, 1), (1639, .goto 609, 3), (1642, .aload_n 1, 1), (1643, .aload_n 0, 1), (1644, .iload 4, 2), (1646, .iconst 1, 1), (1647, .iadd, 1), (1648, .iaload, 1), (1649, .aload_n 3, 1), (1650, .invokestatic 209, 3), (1653, .istore 5, 2), (1655, .aload_n 2, 1), (1656, .aload_n 0, 1), (1657, .iload 4, 2), (1659, .iconst 1, 1), (1660, .iadd, 1), (1661, .iaload, 1), (1662, .invokevirtual 211, 3), (1665, .istore 6, 2), (1667, .aload_n 2, 1), (1668, .invokevirtual 127, 3), (1671, .iload 5, 2), (1673, .if_icmp .eq 5, 3), (1676, .iconst 0, 1), (1677, .ireturn, 1), (1678, .iload 5, 2), (1680, .ifCond .ne 15, 3), (1683, .aload_n 3, 1), (1684, .iconst 0, 1), (1685, .laload, 1), (1686, .iload 6, 2), (1688, .i2l, 1), (1689, .lcmp, 1), (1690, .ifCond .eq 5, 3), (1693, .iconst 0, 1), (1694, .ireturn, 1), (1695, .goto 553, 3), (1698, .aload_n 1, 1), (1699, .aload_n 0, 1), (1700, .iload 4, 2), (1702, .iconst 1, 1), (1703, .iadd, 1), (1704, .iaload, 1), (1705, .aload_n 3, 1), (1706, .invokestatic 212, 3), (1709, .istore 5, 2), (1711, .aload_n 2, 1), (1712, .aload_n 0, 1), (1713, .iload 4, 2), (1715, .iconst 1, 1), (1716, .iadd, 1), (1717, .iaload, 1), (1718, .invokevirtual 214, 3), (1721, .istore 6, 2), (1723, .aload_n 2, 1), (1724, .invokevirtual 127, 3), (1727, .iload 5, 2), (1729, .if_icmp .eq 5, 3), (1732, .iconst 0, 1), (1733, .ireturn, 1), (1734, .iload 5, 2), (1736, .ifCond .ne 15, 3), (1739, .aload_n 3, 1), (1740, .iconst 0, 1), (1741, .laload, 1), (1742, .iload 6, 2), (1744, .i2l, 1), (1745, .lcmp, 1), (1746, .ifCond .eq 5, 3), (1749, .iconst 0, 1), (1750, .ireturn, 1), (1751, .goto 497, 3), (1754, .aload_n 1, 1), (1755, .aload_n 0, 1), (1756, .iload 4, 2), (1758, .iconst 1, 1), (1759, .iadd, 1), (1760, .iaload, 1), (1761, .aload_n 3, 1), (1762, .invokestatic 215, 3), (1765, .istore 5, 2), (1767, .aload_n 2, 1), (1768, .aload_n 0, 1), (1769, .iload 4, 2), (1771, .iconst 1, 1), (1772, .iadd, 1), (1773, .iaload, 1), (1774, .invokevirtual 217, 3), (1777, .istore 6, 2), (1779, .aload_n 2, 1), (1780, .invokevirtual 127, 3), (1783, .iload 5, 2), (1785, .if_icmp .eq 5, 3), (1788, .iconst 0, 1), (1789, .ireturn, 1), (1790, .iload 5, 2), (1792, .ifCond .ne 15, 3), (1795, .aload_n 3, 1), (1796, .iconst 0, 1), (1797, .laload, 1), (1798, .iload 6, 2), (1800, .i2l, 1), (1801, .lcmp, 1), (1802, .ifCond .eq 5, 3), (1805, .iconst 0, 1), (1806, .ireturn, 1), (1807, .goto 441, 3), (1810, .aload_n 1, 1), (1811, .aload_n 0, 1), (1812, .iload 4, 2), (1814, .iconst 1, 1), (1815, .iadd, 1), (1816, .iaload, 1), (1817, .ifCond .eq 7, 3), (1820, .iconst 1, 1), (1821, .goto 4, 3), (1824, .iconst 0, 1), (1825, .invokevirtual 218, 3), (1828, .aload_n 2, 1), (1829, .aload_n 0, 1), (1830, .iload 4, 2), (1832, .iconst 1, 1), (1833, .iadd, 1), (1834, .iaload, 1), (1835, .ifCond .eq 7, 3), (1838, .iconst 1, 1), (1839, .goto 4, 3), (1842, .iconst 0, 1), (1843, .invokevirtual 222, 3), (1846, .if_icmp .eq 402, 3), (1849, .iconst 0, 1), (1850, .ireturn, 1), (1851, .aload_n 1, 1), (1852, .aload_n 0, 1), (1853, .iload 4, 2), (1855, .iconst 1, 1), (1856, .iadd, 1), (1857, .iaload, 1), (1858, .aload_n 3, 1), (1859, .invokestatic 223, 3), (1862, .istore 5, 2), (1864, .aload_n 2, 1), (1865, .aload_n 0, 1), (1866, .iload 4, 2), (1868, .iconst 1, 1), (1869, .iadd, 1), (1870, .iaload, 1), (1871, .invokevirtual 225, 3), (1874, .istore 6, 2), (1876, .aload_n 2, 1), (1877, .invokevirtual 127, 3), (1880, .iload 5, 2), (1882, .if_icmp .eq 5, 3), (1885, .iconst 0, 1), (1886, .ireturn, 1), (1887, .iload 5, 2), (1889, .ifCond .ne 15, 3), (1892, .aload_n 3, 1), (1893, .iconst 0, 1), (1894, .laload, 1), (1895, .iload 6, 2), (1897, .i2l, 1), (1898, .lcmp, 1), (1899, .ifCond .eq 5, 3), (1902, .iconst 0, 1), (1903, .ireturn, 1), (1904, .goto 344, 3), (1907, .aload_n 1, 1), (1908, .aload_n 0, 1), (1909, .iload 4, 2), (1911, .iconst 1, 1), (1912, .iadd, 1), (1913, .iaload, 1), (1914, .aload_n 0, 1), (1915, .iload 4, 2), (1917, .iconst 2, 1), (1918, .iadd, 1), (1919, .iaload, 1), (1920, .aload_n 3, 1), (1921, .invokestatic 226, 3), (1924, .istore 5, 2), (1926, .aload_n 2, 1), (1927, .aload_n 0, 1), (1928, .iload 4, 2), (1930, .iconst 1, 1), (1931, .iadd, 1), (1932, .iaload, 1), (1933, .aload_n 0, 1), (1934, .iload 4, 2), (1936, .iconst 2, 1), (1937, .iadd, 1), (1938, .iaload, 1), (1939, .invokevirtual 228, 3), (1942, .istore 6, 2), (1944, .aload_n 2, 1), (1945, .invokevirtual 127, 3), (1948, .iload 5, 2), (1950, .if_icmp .eq 5, 3), (1953, .iconst 0, 1), (1954, .ireturn, 1), (1955, .iload 5, 2), (1957, .ifCond .ne 15, 3), (1960, .aload_n 3, 1), (1961, .iconst 0, 1), (1962, .laload, 1), (1963, .iload 6, 2), (1965, .i2l, 1), (1966, .lcmp, 1), (1967, .ifCond .eq 5, 3), (1970, .iconst 0, 1), (1971, .ireturn, 1), (1972, .goto 276, 3), (1975, .aload_n 1, 1), (1976, .aload_n 0, 1), (1977, .iload 4, 2), (1979, .iconst 1, 1), (1980, .iadd, 1), (1981, .iaload, 1), (1982, .aload_n 3, 1), (1983, .invokestatic 229, 3), (1986, .istore 5, 2), (1988, .aload_n 2, 1), (1989, .aload_n 0, 1), (1990, .iload 4, 2), (1992, .iconst 1, 1), (1993, .iadd, 1), (1994, .iaload, 1), (1995, .invokevirtual 231, 3), (1998, .istore 6, 2), (2000, .aload_n 2, 1), (2001, .invokevirtual 127, 3), (2004, .iload 5, 2), (2006, .if_icmp .eq 5, 3), (2009, .iconst 0, 1), (2010, .ireturn, 1), (2011, .iload 5, 2), (2013, .ifCond .ne 15, 3), (2016, .aload_n 3, 1), (2017, .iconst 0, 1), (2018, .laload, 1), (2019, .iload 6, 2), (2021, .i2l, 1), (2022, .lcmp, 1), (2023, .ifCond .eq 5, 3), (2026, .iconst 0, 1), (2027, .ireturn, 1), (2028, .goto 220, 3), (2031, .aload_n 1, 1), (2032, .aload_n 0, 1), (2033, .iload 4, 2), (2035, .iconst 1, 1), (2036, .iadd, 1), (2037, .iaload, 1), (2038, .aload_n 3, 1), (2039, .invokestatic 232, 3), (2042, .istore 5, 2), (2044, .aload_n 2, 1), (2045, .aload_n 0, 1), (2046, .iload 4, 2), (2048, .iconst 1, 1), (2049, .iadd, 1), (2050, .iaload, 1), (2051, .invokevirtual 234, 3), (2054, .istore 6, 2), (2056, .aload_n 2, 1), (2057, .invokevirtual 127, 3), (2060, .iload 5, 2), (2062, .if_icmp .eq 5, 3), (2065, .iconst 0, 1), (2066, .ireturn, 1), (2067, .iload 5, 2), (2069, .ifCond .ne 15, 3), (2072, .aload_n 3, 1), (2073, .iconst 0, 1), (2074, .laload, 1), (2075, .iload 6, 2), (2077, .i2l, 1), (2078, .lcmp, 1), (2079, .ifCond .eq 5, 3), (2082, .iconst 0, 1), (2083, .ireturn, 1), (2084, .goto 164, 3), (2087, .aload_n 1, 1), (2088, .invokevirtual 235, 3), (2091, .aload_n 2, 1), (2092, .invokevirtual 238, 3), (2095, .if_icmp .eq 153, 3), (2098, .iconst 0, 1), (2099, .ireturn, 1), (2100, .aload_n 1, 1), (2101, .aload_n 0, 1), (2102, .iload 4, 2), (2104, .iconst 1, 1), (2105, .iadd, 1), (2106, .iaload, 1), (2107, .aload_n 0, 1), (2108, .iload 4, 2), (2110, .iconst 2, 1), (2111, .iadd, 1), (2112, .iaload, 1), (2113, .aload_n 3, 1), (2114, .invokestatic 239, 3), (2117, .istore 5, 2), (2119, .aload_n 2, 1), (2120, .aload_n 0, 1), (2121, .iload 4, 2), (2123, .iconst 1, 1), (2124, .iadd, 1), (2125, .iaload, 1), (2126, .aload_n 0, 1), (2127, .iload 4, 2), (2129, .iconst 2, 1), (2130, .iadd, 1), (2131, .iaload, 1), (2132, .invokevirtual 241, 3), (2135, .istore 6, 2), (2137, .aload_n 2, 1), (2138, .invokevirtual 127, 3), (2141, .iload 5, 2), (2143, .if_icmp .eq 5, 3), (2146, .iconst 0, 1), (2147, .ireturn, 1), (2148, .iload 5, 2), (2150, .ifCond .ne 15, 3), (2153, .aload_n 3, 1), (2154, .iconst 0, 1), (2155, .laload, 1), (2156, .iload 6, 2), (2158, .i2l, 1), (2159, .lcmp, 1), (2160, .ifCond .eq 5, 3), (2163, .iconst 0, 1), (2164, .ireturn, 1), (2165, .goto 83, 3), (2168, .aload_n 1, 1), (2169, .aload_n 0, 1), (2170, .iload 4, 2), (2172, .iconst 1, 1), (2173, .iadd, 1), (2174, .iaload, 1), (2175, .aload_n 0, 1), (2176, .iload 4, 2), (2178, .iconst 2, 1), (2179, .iadd, 1), (2180, .iaload, 1), (2181, .aload_n 0, 1), (2182, .iload 4, 2), (2184, .iconst 3, 1), (2185, .iadd, 1), (2186, .iaload, 1), (2187, .aload_n 3, 1), (2188, .invokestatic 242, 3), (2191, .istore 5, 2), (2193, .aload_n 2, 1), (2194, .aload_n 0, 1), (2195, .iload 4, 2), (2197, .iconst 1, 1), (2198, .iadd, 1), (2199, .iaload, 1), (2200, .aload_n 0, 1), (2201, .iload 4, 2), (2203, .iconst 2, 1), (2204, .iadd, 1), (2205, .iaload, 1), (2206, .aload_n 0, 1), (2207, .iload 4, 2), (2209, .iconst 3, 1), (2210, .iadd, 1), (2211, .iaload, 1), (2212, .invokevirtual 244, 3), (2215, .istore 6, 2), (2217, .aload_n 2, 1), (2218, .invokevirtual 127, 3), (2221, .iload 5, 2), (2223, .if_icmp .eq 5, 3), (2226, .iconst 0, 1), (2227, .ireturn, 1), (2228, .iload 5, 2), (2230, .ifCond .ne 15, 3), (2233, .aload_n 3, 1), (2234, .iconst 0, 1), (2235, .laload, 1), (2236, .iload 6, 2), (2238, .i2l, 1), (2239, .lcmp, 1), (2240, .ifCond .eq 5, 3), (2243, .iconst 0, 1), (2244, .ireturn, 1), (2245, .goto 3, 3), (2248, .iinc 4 4, 3), (2251, .goto (-2228), 3), (2254, .iconst 1, 1), (2255, .ireturn, 1)]
theorem tL_law : ∀ q ∈ bL_law, decode code q.1 = .ok (q.2.1, q.2.2) := by decide +kernel
theorem Rl.run0 {lk : PL} {ro : PRO} {tb : PT} {d k : Nat} {G : Nat → PS → Prop} (hR : Rl lk ro tb d G) (hk : k ≤ 600) (n : Nat) {S S' : PS} (h : prun lk ro tb n S = some (S', none)) (kk : G k S') : G k S := hR.1 k n S S' none hk h (fun _ q => by cases q) kk
theorem Rl.run1 {lk : PL} {ro : PRO} {tb : PT} {d k : Nat} {G : Nat → PS → Prop} (hR : Rl lk ro tb d G) (hk : k ≤ 600) (n : Nat) {S S' : PS} {P : Prop} (h : prun lk ro tb n S = some (S', some P)) (hP : P) (kk : G k S') : G k S := hR.1 k n S S' (some P) hk h (fun _ q => by cases q; exact hP) kk
theorem Rl.br {lk : PL} {ro : PRO} {tb : PT} {d k : Nat} {G : Nat → PS → Prop} (hR : Rl lk ro tb d G) (hk : k ≤ 600) {S S1 S2 : PS} {P C : Prop} (h : pbrT tb S = some (P, C, S1, S2)) (hP : P) (k1 : C → G k S1) (k2 : ¬ C → G k S2) : G k S := by
  unfold pbrT at h
  split at h
  · next i n h0 => exact hR.2.1 k S i n P C S1 S2 hk h0 h hP k1 k2
  · cases h
theorem Rl.cv {lk : PL} {ro : PRO} {tb : PT} {d kk : Nat} {G : Nat → PS → Prop} (hR : Rl lk ro tb d G) (hk : kk ≤ 600) {idx : Nat} {M : PM} {d1 n : Nat} (as : List PV) {k : Nat} {rest st : List PV} {L : List (Option PV)} {pc : Nat} {w w2 : PW} {v : Option PV} (hl : vLink RL idx M n) (h0 : alk tb pc = some (.invokevirtual idx, 3)) (hn : as.length = n) (hr : rOk w k M.1.cls) (hd : d1 + 1 ≤ d) (hm : M.2.2.1 ≤ 20) (hc : pcat rest ≤ 8) (hs : st = as.reverse ++ vR k :: rest) (h : Sp M ro d1 (vR k :: as) w (.inl v) w2) (g : G kk (pc + 3, L, v.toList ++ rest, w2)) : G kk (pc, L, st, w) := by
  obtain ⟨ci, fs, rr, r1, r2, r3⟩ := hr
  subst hn
  subst hs
  exact hR.2.2.1 kk idx M d1 as k ci fs rr rest L pc w w2 v hk h0 hl r1 r2 r3 hd hm hc h g
theorem Rl.cw {lk : PL} {ro : PRO} {tb : PT} {d kk : Nat} {G : Nat → PS → Prop} (hR : Rl lk ro tb d G) (hk : kk < 600) {idx : Nat} {M : PM} {hh : PHH} {d1 n : Nat} (as : List PV) {rest st : List PV} {L : List (Option PV)} {pc : Nat} {w w2 : PW} {v : PV} (hl : sLinkW RL idx M hh n) (h0 : alk tb pc = some (.invokestatic idx, 3)) (hn : as.length = n) (hd : d1 + 1 ≤ d) (hm : M.2.2.1 ≤ 20) (hc : pcat rest ≤ 8) (hs : st = as.reverse ++ rest) (h : Sw M hh ro d1 as w v w2) (g : G (kk + 1) (pc + 3, L, v :: rest, w2)) : G kk (pc, L, st, w) := by
  subst hn
  subst hs
  exact hR.2.2.2.1 kk idx M hh d1 as rest L pc w w2 v hk h0 hl hd hm hc h g
theorem frM {M : PM} {ro : PRO} {d : Nat} {as : List PV} {τ ρ τ' ρ' σ κ : St} {out : Int → Int} {o : PO} (hro : ∀ q ∈ roC, q ∈ ro) (h : Sp M roC d as (mW τ ρ) o (mW τ' ρ')) : Sp M ro d as (LW σ κ τ ρ out) o (LW σ κ τ' ρ' out) := by
  have h1 := Sp.frame [] (cW σ κ ++ [(120, .inl (1, .inr (.inl out)))]) hro h
  rw [List.nil_append, List.nil_append, ← List.append_assoc, ← List.append_assoc] at h1
  exact h1
theorem frC {M : PM} {ro : PRO} {d : Nat} {as : List PV} {τ κ τ' κ' σ ρ : St} {out : Int → Int} {o : PO} (hro : ∀ q ∈ roC, q ∈ ro) (h : Sp M roC d as (cW τ κ) o (cW τ' κ')) : Sp M ro d as (LW τ κ σ ρ out) o (LW τ' κ' σ ρ out) := Sp.frame (mW σ ρ) [(120, .inl (1, .inr (.inl out)))] hro h
def Lh_ (i : Int) : List (Option PV) := [some (vR 98), some (vR 0), some (vR 100), some (vR 120), some (vI i), none, none]
theorem oP_0 {x : XR} {out : Int → Int} (h : x.1 = 0) : oP x out 0 = nmI x.2.1 := by
  unfold oP
  rw [if_pos h]
  rfl
/-- the law's row of numbers -/
def Sc (xs : Int → Int) (N : Nat) (ro : PRO) : Prop := ro = (98, N, xs) :: roC ∧ N ≤ 2048 ∧ ∀ j, -2147483648 ≤ xs j ∧ xs j ≤ 2147483647
theorem Sc.ro {xs : Int → Int} {N : Nat} {ro : PRO} (h : Sc xs N ro) : ∀ q ∈ roC, q ∈ ro := by
  intro q hq
  rw [h.1]
  exact List.mem_cons_of_mem _ hq
theorem kS_121 : sLinkW RL 121 mL_layHex hhL_layHex 4 := ⟨gT_at 185 (by decide +kernel) (by decide +kernel), gT_at 186 (by decide +kernel) (by decide +kernel), gT_at 0 (by decide +kernel) (by decide +kernel), gT_at 187 (by decide +kernel) (by decide +kernel), ⟨by decide +kernel, by decide +kernel, by decide +kernel⟩⟩
theorem kL_126 : vLink RL 126 mX6_layHex 3 := ⟨gT_at 992 (by decide +kernel) (by decide +kernel), wX6_layHex⟩
theorem kL_127 : vLink RL 127 mX6_thrown 0 := ⟨gT_at 988 (by decide +kernel) (by decide +kernel), wX6_thrown⟩
set_option maxHeartbeats 4000000 in
theorem cs_layHex {xs : Int → Int} {N : Nat} {G : Nat → PS → Prop} (hR : Rl lkL ((98, N, xs) :: roC) bL_law 100 G) (hx : N ≤ 2048 ∧ ∀ j, -2147483648 ≤ xs j ∧ xs j ≤ 2147483647) {τ κ ρ : St} {out : Int → Int} (hJ : Jv τ κ) {k : Nat} (hk : k < 600) {i : Int} (hi : 0 ≤ i ∧ i + 4 ≤ N) (kont : ∀ (τ κ ρ : St) (out : Int → Int) (j : Nat), j ≤ k + 1 → Jv τ κ → G j (2248, Lh_ i, [], LW τ κ τ ρ out)) : G k (196, Lh_ i, [], LW τ κ τ ρ out) := by
  have hN := hx.1
  have hxr := hx.2
  have hr1 := hxr (i + 1)
  have hr2 := hxr (i + 2)
  have hr3 := hxr (i + 3)
  have hro : ∀ q ∈ roC, q ∈ ((98, N, xs) :: roC : PRO) := fun q hq => List.mem_cons_of_mem _ hq
  have hw := wL_layHex τ κ τ ρ out hro hr1 hr2 hr3 hJ.1
  have hm := fun (σ κ2 : St) (out2 : Int → Int) => frM (σ := σ) (κ := κ2) (out := out2) hro (pX6_layHex τ ρ hr1 hr2 hr3 hJ.1)
  have hcd := cd_xLay τ (xs (i + 1)) (xs (i + 2)) (xs (i + 3))
  have hth : (sS ρ 0 (xLay τ (xs (i + 1)) (xs (i + 2)) (xs (i + 3))).1).1 0 = (xLay τ (xs (i + 1)) (xs (i + 2)) (xs (i + 3))).1 := rfl
  have hJ2 := J_layHex hJ (xs (i + 1)) (xs (i + 2)) (xs (i + 3))
  generalize (sS ρ 0 (xLay τ (xs (i + 1)) (xs (i + 2)) (xs (i + 3))).1) = ρ2 at hm hth
  generalize xLay τ (xs (i + 1)) (xs (i + 2)) (xs (i + 3)) = x at hw hm hcd hth hJ2
  refine hR.run1 (by omega) 16 (S' := (215, [some (vR 98), some (vR 0), some (vR 100), some (vR 120), some (vI i), none, none], [vI (xs (i + 3)), vI (xs (i + 2)), vI (xs (i + 1)), vR 0], LW τ κ τ ρ out)) rfl (by omega) ?_
  refine hR.cw hk [vR 0, vI (xs (i + 1)), vI (xs (i + 2)), vI (xs (i + 3))] kS_121 rfl rfl (by decide) (Nat.le_of_ble_eq_true rfl) (by decide) rfl hw ?_
  refine hR.run1 (by omega) 17 (S' := (239, [some (vR 98), some (vR 0), some (vR 100), some (vR 120), some (vI i), some (vI x.1), none], [vI (xs (i + 3)), vI (xs (i + 2)), vI (xs (i + 1)), vR 100], LW x.2.2 κ τ ρ out)) rfl (by omega) ?_
  refine hR.cv (by omega) [vI (xs (i + 1)), vI (xs (i + 2)), vI (xs (i + 3))] kL_126 rfl rfl ⟨_, _, _, rfl, rfl, rfl⟩ (by decide) (Nat.le_of_ble_eq_true rfl) (by decide) rfl (hm _ _ _) ?_
  refine hR.run0 (by omega) 1 (S' := (243, [some (vR 98), some (vR 0), some (vR 100), some (vR 120), some (vI i), some (vI x.1), none], [vR 100], LW x.2.2 κ x.2.2 ρ2 out)) rfl ?_
  refine hR.cv (by omega) [] kL_127 rfl rfl ⟨_, _, _, rfl, rfl, rfl⟩ (by decide) (Nat.le_of_ble_eq_true rfl) (by decide) rfl (frM hro (sr_thrown _ _)) ?_
  show G (k + 1) (246, [some (vR 98), some (vR 0), some (vR 100), some (vR 120), some (vI i), some (vI x.1), none], [vI (ρ2.1 0)], LW x.2.2 κ x.2.2 ρ2 out)
  rw [hth]
  refine hR.run0 (by omega) 1 (S' := (248, [some (vR 98), some (vR 0), some (vR 100), some (vR 120), some (vI i), some (vI x.1), none], [vI x.1, vI x.1], LW x.2.2 κ x.2.2 ρ2 out)) rfl ?_
  refine hR.br (by omega) (C := x.1 = x.1) rfl (by omega) (fun _ => ?_) (fun h => absurd rfl h)
  refine hR.run0 (by omega) 1 (S' := (2248, [some (vR 98), some (vR 0), some (vR 100), some (vR 120), some (vI i), some (vI x.1), none], [], LW x.2.2 κ x.2.2 ρ2 out)) rfl ?_
  refine hR.2.2.2.2.2.2 _ 5 _ _ _ _ ?_
  exact kont _ _ _ _ _ (Nat.le_refl _) hJ2
theorem kS_130 : sLinkW RL 130 mL_place hhL_place 4 := ⟨gT_at 309 (by decide +kernel) (by decide +kernel), gT_at 310 (by decide +kernel) (by decide +kernel), gT_at 0 (by decide +kernel) (by decide +kernel), gT_at 311 (by decide +kernel) (by decide +kernel), ⟨by decide +kernel, by decide +kernel, by decide +kernel⟩⟩
theorem kL_133 : vLink RL 133 mX6_place 2 := ⟨gT_at 1006 (by decide +kernel) (by decide +kernel), wX6_place⟩
set_option maxHeartbeats 4000000 in
theorem cs_place {xs : Int → Int} {N : Nat} {G : Nat → PS → Prop} (hR : Rl lkL ((98, N, xs) :: roC) bL_law 100 G) (hx : N ≤ 2048 ∧ ∀ j, -2147483648 ≤ xs j ∧ xs j ≤ 2147483647) {τ κ ρ : St} {out : Int → Int} (hJ : Jv τ κ) {k : Nat} (hk : k < 600) {i : Int} (hi : 0 ≤ i ∧ i + 4 ≤ N) (kont : ∀ (τ κ ρ : St) (out : Int → Int) (j : Nat), j ≤ k + 1 → Jv τ κ → G j (2248, Lh_ i, [], LW τ κ τ ρ out)) : G k (256, Lh_ i, [], LW τ κ τ ρ out) := by
  have hN := hx.1
  have hxr := hx.2
  have hr1 := hxr (i + 1)
  have hr2 := hxr (i + 2)
  have hro : ∀ q ∈ roC, q ∈ ((98, N, xs) :: roC : PRO) := fun q hq => List.mem_cons_of_mem _ hq
  have hw := wL_place τ κ τ ρ out hro hr1 hr2 hJ.2.2.1 hJ.2.2.2.1 hJ.1
  have hm := fun (σ κ2 : St) (out2 : Int → Int) => frM (σ := σ) (κ := κ2) (out := out2) hro (pX6_place τ ρ hr1 hr2 hJ.1)
  have hcd := cd_xPlace τ (xs (i + 1)) (xs (i + 2))
  have hth : (rPlace τ ρ (xs (i + 1)) (xs (i + 2))).1 0 = (xPlace τ (xs (i + 1)) (xs (i + 2))).1 := r1_rPlace τ ρ (xs (i + 1)) (xs (i + 2))
  have hJ2 := J_place hJ (xs (i + 1)) (xs (i + 2))
  generalize (rPlace τ ρ (xs (i + 1)) (xs (i + 2))) = ρ2 at hm hth
  generalize xPlace τ (xs (i + 1)) (xs (i + 2)) = x at hw hm hcd hth hJ2
  generalize (kPlace κ τ (xs (i + 1)) (xs (i + 2))) = κ2 at hw hJ2
  refine hR.run1 (by omega) 12 (S' := (270, [some (vR 98), some (vR 0), some (vR 100), some (vR 120), some (vI i), none, none], [vR 120, vI (xs (i + 2)), vI (xs (i + 1)), vR 0], LW τ κ τ ρ out)) rfl (by omega) ?_
  refine hR.cw hk [vR 0, vI (xs (i + 1)), vI (xs (i + 2)), vR 120] kS_130 rfl rfl (by decide) (Nat.le_of_ble_eq_true rfl) (by decide) rfl hw ?_
  refine hR.run1 (by omega) 12 (S' := (288, [some (vR 98), some (vR 0), some (vR 100), some (vR 120), some (vI i), some (vI x.1), none], [vI (xs (i + 2)), vI (xs (i + 1)), vR 100], LW x.2.2 κ2 τ ρ (oP x out))) rfl (by omega) ?_
  refine hR.cv (by omega) [vI (xs (i + 1)), vI (xs (i + 2))] kL_133 rfl rfl ⟨_, _, _, rfl, rfl, rfl⟩ (by decide) (Nat.le_of_ble_eq_true rfl) (by decide) rfl (hm _ _ _) ?_
  show G (k + 1) (291, [some (vR 98), some (vR 0), some (vR 100), some (vR 120), some (vI i), some (vI x.1), none], [vI x.2.1], LW x.2.2 κ2 x.2.2 ρ2 (oP x out))
  refine hR.2.2.2.2.2.1 _ _ _ _ _ _ ?_
  refine hR.run0 (by omega) 2 (S' := (294, [some (vR 98), some (vR 0), some (vR 100), some (vR 120), some (vI i), some (vI x.1), some (vI (nmI x.2.1))], [vR 100], LW x.2.2 κ2 x.2.2 ρ2 (oP x out))) rfl ?_
  refine hR.cv (by omega) [] kL_127 rfl rfl ⟨_, _, _, rfl, rfl, rfl⟩ (by decide) (Nat.le_of_ble_eq_true rfl) (by decide) rfl (frM hro (sr_thrown _ _)) ?_
  show G (k + 1) (297, [some (vR 98), some (vR 0), some (vR 100), some (vR 120), some (vI i), some (vI x.1), some (vI (nmI x.2.1))], [vI (ρ2.1 0)], LW x.2.2 κ2 x.2.2 ρ2 (oP x out))
  rw [hth]
  refine hR.run0 (by omega) 1 (S' := (299, [some (vR 98), some (vR 0), some (vR 100), some (vR 120), some (vI i), some (vI x.1), some (vI (nmI x.2.1))], [vI x.1, vI x.1], LW x.2.2 κ2 x.2.2 ρ2 (oP x out))) rfl ?_
  refine hR.br (by omega) (C := x.1 = x.1) rfl (by omega) (fun _ => ?_) (fun h => absurd rfl h)
  refine hR.run0 (by omega) 1 (S' := (306, [some (vR 98), some (vR 0), some (vR 100), some (vR 120), some (vI i), some (vI x.1), some (vI (nmI x.2.1))], [vI x.1], LW x.2.2 κ2 x.2.2 ρ2 (oP x out))) rfl ?_
  refine hR.br (by omega) (C := x.1 ≠ 0) rfl (by omega) (fun _ => ?_) (fun h => ?_)
  · skip
    refine hR.run0 (by omega) 1 (S' := (2248, [some (vR 98), some (vR 0), some (vR 100), some (vR 120), some (vI i), some (vI x.1), some (vI (nmI x.2.1))], [], LW x.2.2 κ2 x.2.2 ρ2 (oP x out))) rfl ?_
    refine hR.2.2.2.2.2.2 _ 5 _ _ _ _ ?_
    refine hR.2.2.2.2.2.2 _ 6 _ _ _ _ ?_
    exact kont _ _ _ _ _ (Nat.le_refl _) hJ2
  · have h0 : x.1 = 0 := by omega
    have ho := oP_0 (out := out) h0
    have hnr := nmI_r x.2.1
    refine hR.run1 (by omega) 6 (S' := (316, [some (vR 98), some (vR 0), some (vR 100), some (vR 120), some (vI i), some (vI x.1), some (vI (nmI x.2.1))], [vI (if nmI x.2.1 < (oP x out) 0 then 1 else if (oP x out) 0 = nmI x.2.1 then 0 else -1)], LW x.2.2 κ2 x.2.2 ρ2 (oP x out))) rfl (by rw [ho]; omega) ?_
    refine hR.br (by omega) (C := (if nmI x.2.1 < (oP x out) 0 then (1 : Int) else if (oP x out) 0 = nmI x.2.1 then 0 else -1) = 0) rfl (by (repeat' split) <;> omega) (fun _ => ?_) (fun h => absurd (lc0.mpr ho) h)
    refine hR.run0 (by omega) 1 (S' := (2248, [some (vR 98), some (vR 0), some (vR 100), some (vR 120), some (vI i), some (vI x.1), some (vI (nmI x.2.1))], [], LW x.2.2 κ2 x.2.2 ρ2 (oP x out))) rfl ?_
    refine hR.2.2.2.2.2.2 _ 5 _ _ _ _ ?_
    refine hR.2.2.2.2.2.2 _ 6 _ _ _ _ ?_
    exact kont _ _ _ _ _ (Nat.le_refl _) hJ2
theorem kS_134 : sLinkW RL 134 mL_deal hhL_deal 4 := ⟨gT_at 437 (by decide +kernel) (by decide +kernel), gT_at 438 (by decide +kernel) (by decide +kernel), gT_at 0 (by decide +kernel) (by decide +kernel), gT_at 439 (by decide +kernel) (by decide +kernel), ⟨by decide +kernel, by decide +kernel, by decide +kernel⟩⟩
theorem kL_136 : vLink RL 136 mX6_deal 2 := ⟨gT_at 1067 (by decide +kernel) (by decide +kernel), wX6_deal⟩
set_option maxHeartbeats 4000000 in
theorem cs_deal {xs : Int → Int} {N : Nat} {G : Nat → PS → Prop} (hR : Rl lkL ((98, N, xs) :: roC) bL_law 100 G) (hx : N ≤ 2048 ∧ ∀ j, -2147483648 ≤ xs j ∧ xs j ≤ 2147483647) {τ κ ρ : St} {out : Int → Int} (hJ : Jv τ κ) {k : Nat} (hk : k < 600) {i : Int} (hi : 0 ≤ i ∧ i + 4 ≤ N) (kont : ∀ (τ κ ρ : St) (out : Int → Int) (j : Nat), j ≤ k + 1 → Jv τ κ → G j (2248, Lh_ i, [], LW τ κ τ ρ out)) : G k (324, Lh_ i, [], LW τ κ τ ρ out) := by
  have hN := hx.1
  have hxr := hx.2
  have hr1 := hxr (i + 1)
  have hr2 := hxr (i + 2)
  have hro : ∀ q ∈ roC, q ∈ ((98, N, xs) :: roC : PRO) := fun q hq => List.mem_cons_of_mem _ hq
  have hw := wL_deal τ κ τ ρ out hro hr1 hr2 hJ.1
  have hm := fun (σ κ2 : St) (out2 : Int → Int) => frM (σ := σ) (κ := κ2) (out := out2) hro (pX6_deal τ ρ hr1 hr2 hJ.1)
  have hcd := cd_xDeal τ (xs (i + 1)) (xs (i + 2))
  have hth : (sS ρ 0 (xDeal τ (xs (i + 1)) (xs (i + 2))).1).1 0 = (xDeal τ (xs (i + 1)) (xs (i + 2))).1 := rfl
  have hJ2 := J_deal hJ (xs (i + 1)) (xs (i + 2))
  generalize (sS ρ 0 (xDeal τ (xs (i + 1)) (xs (i + 2))).1) = ρ2 at hm hth
  generalize xDeal τ (xs (i + 1)) (xs (i + 2)) = x at hw hm hcd hth hJ2
  generalize (kDeal κ τ (xs (i + 1)) (xs (i + 2))) = κ2 at hw hJ2
  refine hR.run1 (by omega) 12 (S' := (338, [some (vR 98), some (vR 0), some (vR 100), some (vR 120), some (vI i), none, none], [vR 120, vI (xs (i + 2)), vI (xs (i + 1)), vR 0], LW τ κ τ ρ out)) rfl (by omega) ?_
  refine hR.cw hk [vR 0, vI (xs (i + 1)), vI (xs (i + 2)), vR 120] kS_134 rfl rfl (by decide) (Nat.le_of_ble_eq_true rfl) (by decide) rfl hw ?_
  refine hR.run1 (by omega) 12 (S' := (356, [some (vR 98), some (vR 0), some (vR 100), some (vR 120), some (vI i), some (vI x.1), none], [vI (xs (i + 2)), vI (xs (i + 1)), vR 100], LW x.2.2 κ2 τ ρ (oP x out))) rfl (by omega) ?_
  refine hR.cv (by omega) [vI (xs (i + 1)), vI (xs (i + 2))] kL_136 rfl rfl ⟨_, _, _, rfl, rfl, rfl⟩ (by decide) (Nat.le_of_ble_eq_true rfl) (by decide) rfl (hm _ _ _) ?_
  show G (k + 1) (359, [some (vR 98), some (vR 0), some (vR 100), some (vR 120), some (vI i), some (vI x.1), none], [vI x.2.1], LW x.2.2 κ2 x.2.2 ρ2 (oP x out))
  refine hR.2.2.2.2.2.1 _ _ _ _ _ _ ?_
  refine hR.run0 (by omega) 2 (S' := (362, [some (vR 98), some (vR 0), some (vR 100), some (vR 120), some (vI i), some (vI x.1), some (vI (nmI x.2.1))], [vR 100], LW x.2.2 κ2 x.2.2 ρ2 (oP x out))) rfl ?_
  refine hR.cv (by omega) [] kL_127 rfl rfl ⟨_, _, _, rfl, rfl, rfl⟩ (by decide) (Nat.le_of_ble_eq_true rfl) (by decide) rfl (frM hro (sr_thrown _ _)) ?_
  show G (k + 1) (365, [some (vR 98), some (vR 0), some (vR 100), some (vR 120), some (vI i), some (vI x.1), some (vI (nmI x.2.1))], [vI (ρ2.1 0)], LW x.2.2 κ2 x.2.2 ρ2 (oP x out))
  rw [hth]
  refine hR.run0 (by omega) 1 (S' := (367, [some (vR 98), some (vR 0), some (vR 100), some (vR 120), some (vI i), some (vI x.1), some (vI (nmI x.2.1))], [vI x.1, vI x.1], LW x.2.2 κ2 x.2.2 ρ2 (oP x out))) rfl ?_
  refine hR.br (by omega) (C := x.1 = x.1) rfl (by omega) (fun _ => ?_) (fun h => absurd rfl h)
  refine hR.run0 (by omega) 1 (S' := (374, [some (vR 98), some (vR 0), some (vR 100), some (vR 120), some (vI i), some (vI x.1), some (vI (nmI x.2.1))], [vI x.1], LW x.2.2 κ2 x.2.2 ρ2 (oP x out))) rfl ?_
  refine hR.br (by omega) (C := x.1 ≠ 0) rfl (by omega) (fun _ => ?_) (fun h => ?_)
  · skip
    refine hR.run0 (by omega) 1 (S' := (2248, [some (vR 98), some (vR 0), some (vR 100), some (vR 120), some (vI i), some (vI x.1), some (vI (nmI x.2.1))], [], LW x.2.2 κ2 x.2.2 ρ2 (oP x out))) rfl ?_
    refine hR.2.2.2.2.2.2 _ 5 _ _ _ _ ?_
    refine hR.2.2.2.2.2.2 _ 6 _ _ _ _ ?_
    exact kont _ _ _ _ _ (Nat.le_refl _) hJ2
  · have h0 : x.1 = 0 := by omega
    have ho := oP_0 (out := out) h0
    have hnr := nmI_r x.2.1
    refine hR.run1 (by omega) 6 (S' := (384, [some (vR 98), some (vR 0), some (vR 100), some (vR 120), some (vI i), some (vI x.1), some (vI (nmI x.2.1))], [vI (if nmI x.2.1 < (oP x out) 0 then 1 else if (oP x out) 0 = nmI x.2.1 then 0 else -1)], LW x.2.2 κ2 x.2.2 ρ2 (oP x out))) rfl (by rw [ho]; omega) ?_
    refine hR.br (by omega) (C := (if nmI x.2.1 < (oP x out) 0 then (1 : Int) else if (oP x out) 0 = nmI x.2.1 then 0 else -1) = 0) rfl (by (repeat' split) <;> omega) (fun _ => ?_) (fun h => absurd (lc0.mpr ho) h)
    refine hR.run0 (by omega) 1 (S' := (2248, [some (vR 98), some (vR 0), some (vR 100), some (vR 120), some (vI i), some (vI x.1), some (vI (nmI x.2.1))], [], LW x.2.2 κ2 x.2.2 ρ2 (oP x out))) rfl ?_
    refine hR.2.2.2.2.2.2 _ 5 _ _ _ _ ?_
    refine hR.2.2.2.2.2.2 _ 6 _ _ _ _ ?_
    exact kont _ _ _ _ _ (Nat.le_refl _) hJ2
theorem kS_137 : sLinkW RL 137 mL_roll hhL_roll 4 := ⟨gT_at 474 (by decide +kernel) (by decide +kernel), gT_at 475 (by decide +kernel) (by decide +kernel), gT_at 0 (by decide +kernel) (by decide +kernel), gT_at 476 (by decide +kernel) (by decide +kernel), ⟨by decide +kernel, by decide +kernel, by decide +kernel⟩⟩
theorem kL_139 : vLink RL 139 mX6_roll 2 := ⟨gT_at 1093 (by decide +kernel) (by decide +kernel), wX6_roll⟩
set_option maxHeartbeats 4000000 in
theorem cs_roll {xs : Int → Int} {N : Nat} {G : Nat → PS → Prop} (hR : Rl lkL ((98, N, xs) :: roC) bL_law 100 G) (hx : N ≤ 2048 ∧ ∀ j, -2147483648 ≤ xs j ∧ xs j ≤ 2147483647) {τ κ ρ : St} {out : Int → Int} (hJ : Jv τ κ) {k : Nat} (hk : k < 600) {i : Int} (hi : 0 ≤ i ∧ i + 4 ≤ N) (kont : ∀ (τ κ ρ : St) (out : Int → Int) (j : Nat), j ≤ k + 1 → Jv τ κ → G j (2248, Lh_ i, [], LW τ κ τ ρ out)) : G k (392, Lh_ i, [], LW τ κ τ ρ out) := by
  have hN := hx.1
  have hxr := hx.2
  have hr1 := hxr (i + 1)
  have hr2 := hxr (i + 2)
  have hro : ∀ q ∈ roC, q ∈ ((98, N, xs) :: roC : PRO) := fun q hq => List.mem_cons_of_mem _ hq
  have hw := wL_roll τ κ τ ρ out hro hr1 hr2 hJ.1
  have hm := fun (σ κ2 : St) (out2 : Int → Int) => frM (σ := σ) (κ := κ2) (out := out2) hro (pX6_roll τ ρ hr1 hr2 hJ.1)
  have hcd := cd_xRoll τ (xs (i + 1)) (xs (i + 2))
  have hth : (rRoll τ ρ (xs (i + 1)) (xs (i + 2))).1 0 = (xRoll τ (xs (i + 1)) (xs (i + 2))).1 := r1_rRoll τ ρ (xs (i + 1)) (xs (i + 2))
  have hJ2 := J_roll hJ (xs (i + 1)) (xs (i + 2))
  generalize (rRoll τ ρ (xs (i + 1)) (xs (i + 2))) = ρ2 at hm hth
  generalize xRoll τ (xs (i + 1)) (xs (i + 2)) = x at hw hm hcd hth hJ2
  generalize (kRoll κ τ (xs (i + 1)) (xs (i + 2))) = κ2 at hw hJ2
  refine hR.run1 (by omega) 12 (S' := (406, [some (vR 98), some (vR 0), some (vR 100), some (vR 120), some (vI i), none, none], [vR 120, vI (xs (i + 2)), vI (xs (i + 1)), vR 0], LW τ κ τ ρ out)) rfl (by omega) ?_
  refine hR.cw hk [vR 0, vI (xs (i + 1)), vI (xs (i + 2)), vR 120] kS_137 rfl rfl (by decide) (Nat.le_of_ble_eq_true rfl) (by decide) rfl hw ?_
  refine hR.run1 (by omega) 12 (S' := (424, [some (vR 98), some (vR 0), some (vR 100), some (vR 120), some (vI i), some (vI x.1), none], [vI (xs (i + 2)), vI (xs (i + 1)), vR 100], LW x.2.2 κ2 τ ρ (oP x out))) rfl (by omega) ?_
  refine hR.cv (by omega) [vI (xs (i + 1)), vI (xs (i + 2))] kL_139 rfl rfl ⟨_, _, _, rfl, rfl, rfl⟩ (by decide) (Nat.le_of_ble_eq_true rfl) (by decide) rfl (hm _ _ _) ?_
  show G (k + 1) (427, [some (vR 98), some (vR 0), some (vR 100), some (vR 120), some (vI i), some (vI x.1), none], [vI x.2.1], LW x.2.2 κ2 x.2.2 ρ2 (oP x out))
  refine hR.2.2.2.2.2.1 _ _ _ _ _ _ ?_
  refine hR.run0 (by omega) 2 (S' := (430, [some (vR 98), some (vR 0), some (vR 100), some (vR 120), some (vI i), some (vI x.1), some (vI (nmI x.2.1))], [vR 100], LW x.2.2 κ2 x.2.2 ρ2 (oP x out))) rfl ?_
  refine hR.cv (by omega) [] kL_127 rfl rfl ⟨_, _, _, rfl, rfl, rfl⟩ (by decide) (Nat.le_of_ble_eq_true rfl) (by decide) rfl (frM hro (sr_thrown _ _)) ?_
  show G (k + 1) (433, [some (vR 98), some (vR 0), some (vR 100), some (vR 120), some (vI i), some (vI x.1), some (vI (nmI x.2.1))], [vI (ρ2.1 0)], LW x.2.2 κ2 x.2.2 ρ2 (oP x out))
  rw [hth]
  refine hR.run0 (by omega) 1 (S' := (435, [some (vR 98), some (vR 0), some (vR 100), some (vR 120), some (vI i), some (vI x.1), some (vI (nmI x.2.1))], [vI x.1, vI x.1], LW x.2.2 κ2 x.2.2 ρ2 (oP x out))) rfl ?_
  refine hR.br (by omega) (C := x.1 = x.1) rfl (by omega) (fun _ => ?_) (fun h => absurd rfl h)
  refine hR.run0 (by omega) 1 (S' := (442, [some (vR 98), some (vR 0), some (vR 100), some (vR 120), some (vI i), some (vI x.1), some (vI (nmI x.2.1))], [vI x.1], LW x.2.2 κ2 x.2.2 ρ2 (oP x out))) rfl ?_
  refine hR.br (by omega) (C := x.1 ≠ 0) rfl (by omega) (fun _ => ?_) (fun h => ?_)
  · skip
    refine hR.run0 (by omega) 1 (S' := (2248, [some (vR 98), some (vR 0), some (vR 100), some (vR 120), some (vI i), some (vI x.1), some (vI (nmI x.2.1))], [], LW x.2.2 κ2 x.2.2 ρ2 (oP x out))) rfl ?_
    refine hR.2.2.2.2.2.2 _ 5 _ _ _ _ ?_
    refine hR.2.2.2.2.2.2 _ 6 _ _ _ _ ?_
    exact kont _ _ _ _ _ (Nat.le_refl _) hJ2
  · have h0 : x.1 = 0 := by omega
    have ho := oP_0 (out := out) h0
    have hnr := nmI_r x.2.1
    refine hR.run1 (by omega) 6 (S' := (452, [some (vR 98), some (vR 0), some (vR 100), some (vR 120), some (vI i), some (vI x.1), some (vI (nmI x.2.1))], [vI (if nmI x.2.1 < (oP x out) 0 then 1 else if (oP x out) 0 = nmI x.2.1 then 0 else -1)], LW x.2.2 κ2 x.2.2 ρ2 (oP x out))) rfl (by rw [ho]; omega) ?_
    refine hR.br (by omega) (C := (if nmI x.2.1 < (oP x out) 0 then (1 : Int) else if (oP x out) 0 = nmI x.2.1 then 0 else -1) = 0) rfl (by (repeat' split) <;> omega) (fun _ => ?_) (fun h => absurd (lc0.mpr ho) h)
    refine hR.run0 (by omega) 1 (S' := (2248, [some (vR 98), some (vR 0), some (vR 100), some (vR 120), some (vI i), some (vI x.1), some (vI (nmI x.2.1))], [], LW x.2.2 κ2 x.2.2 ρ2 (oP x out))) rfl ?_
    refine hR.2.2.2.2.2.2 _ 5 _ _ _ _ ?_
    refine hR.2.2.2.2.2.2 _ 6 _ _ _ _ ?_
    exact kont _ _ _ _ _ (Nat.le_refl _) hJ2
theorem kS_140 : sLinkW RL 140 mL_discard hhL_discard 4 := ⟨gT_at 510 (by decide +kernel) (by decide +kernel), gT_at 511 (by decide +kernel) (by decide +kernel), gT_at 0 (by decide +kernel) (by decide +kernel), gT_at 512 (by decide +kernel) (by decide +kernel), ⟨by decide +kernel, by decide +kernel, by decide +kernel⟩⟩
theorem kL_142 : vLink RL 142 mX6_discard 2 := ⟨gT_at 1105 (by decide +kernel) (by decide +kernel), wX6_discard⟩
set_option maxHeartbeats 4000000 in
theorem cs_discard {xs : Int → Int} {N : Nat} {G : Nat → PS → Prop} (hR : Rl lkL ((98, N, xs) :: roC) bL_law 100 G) (hx : N ≤ 2048 ∧ ∀ j, -2147483648 ≤ xs j ∧ xs j ≤ 2147483647) {τ κ ρ : St} {out : Int → Int} (hJ : Jv τ κ) {k : Nat} (hk : k < 600) {i : Int} (hi : 0 ≤ i ∧ i + 4 ≤ N) (kont : ∀ (τ κ ρ : St) (out : Int → Int) (j : Nat), j ≤ k + 1 → Jv τ κ → G j (2248, Lh_ i, [], LW τ κ τ ρ out)) : G k (460, Lh_ i, [], LW τ κ τ ρ out) := by
  have hN := hx.1
  have hxr := hx.2
  have hr1 := hxr (i + 1)
  have hr2 := hxr (i + 2)
  have hro : ∀ q ∈ roC, q ∈ ((98, N, xs) :: roC : PRO) := fun q hq => List.mem_cons_of_mem _ hq
  have hw := wL_discard τ κ τ ρ out hro hr1 hr2 hJ.1
  have hm := fun (σ κ2 : St) (out2 : Int → Int) => frM (σ := σ) (κ := κ2) (out := out2) hro (pX6_discard τ ρ hr1 hr2 hJ.1)
  have hcd := cd_xDisc τ (xs (i + 1)) (xs (i + 2))
  have hth : (sS ρ 0 (xDisc τ (xs (i + 1)) (xs (i + 2))).1).1 0 = (xDisc τ (xs (i + 1)) (xs (i + 2))).1 := rfl
  have hJ2 := J_discard hJ (xs (i + 1)) (xs (i + 2))
  generalize (sS ρ 0 (xDisc τ (xs (i + 1)) (xs (i + 2))).1) = ρ2 at hm hth
  generalize xDisc τ (xs (i + 1)) (xs (i + 2)) = x at hw hm hcd hth hJ2
  generalize (kDisc κ τ (xs (i + 1)) (xs (i + 2))) = κ2 at hw hJ2
  refine hR.run1 (by omega) 12 (S' := (474, [some (vR 98), some (vR 0), some (vR 100), some (vR 120), some (vI i), none, none], [vR 120, vI (xs (i + 2)), vI (xs (i + 1)), vR 0], LW τ κ τ ρ out)) rfl (by omega) ?_
  refine hR.cw hk [vR 0, vI (xs (i + 1)), vI (xs (i + 2)), vR 120] kS_140 rfl rfl (by decide) (Nat.le_of_ble_eq_true rfl) (by decide) rfl hw ?_
  refine hR.run1 (by omega) 12 (S' := (492, [some (vR 98), some (vR 0), some (vR 100), some (vR 120), some (vI i), some (vI x.1), none], [vI (xs (i + 2)), vI (xs (i + 1)), vR 100], LW x.2.2 κ2 τ ρ (oP x out))) rfl (by omega) ?_
  refine hR.cv (by omega) [vI (xs (i + 1)), vI (xs (i + 2))] kL_142 rfl rfl ⟨_, _, _, rfl, rfl, rfl⟩ (by decide) (Nat.le_of_ble_eq_true rfl) (by decide) rfl (hm _ _ _) ?_
  show G (k + 1) (495, [some (vR 98), some (vR 0), some (vR 100), some (vR 120), some (vI i), some (vI x.1), none], [vI x.2.1], LW x.2.2 κ2 x.2.2 ρ2 (oP x out))
  refine hR.2.2.2.2.2.1 _ _ _ _ _ _ ?_
  refine hR.run0 (by omega) 2 (S' := (498, [some (vR 98), some (vR 0), some (vR 100), some (vR 120), some (vI i), some (vI x.1), some (vI (nmI x.2.1))], [vR 100], LW x.2.2 κ2 x.2.2 ρ2 (oP x out))) rfl ?_
  refine hR.cv (by omega) [] kL_127 rfl rfl ⟨_, _, _, rfl, rfl, rfl⟩ (by decide) (Nat.le_of_ble_eq_true rfl) (by decide) rfl (frM hro (sr_thrown _ _)) ?_
  show G (k + 1) (501, [some (vR 98), some (vR 0), some (vR 100), some (vR 120), some (vI i), some (vI x.1), some (vI (nmI x.2.1))], [vI (ρ2.1 0)], LW x.2.2 κ2 x.2.2 ρ2 (oP x out))
  rw [hth]
  refine hR.run0 (by omega) 1 (S' := (503, [some (vR 98), some (vR 0), some (vR 100), some (vR 120), some (vI i), some (vI x.1), some (vI (nmI x.2.1))], [vI x.1, vI x.1], LW x.2.2 κ2 x.2.2 ρ2 (oP x out))) rfl ?_
  refine hR.br (by omega) (C := x.1 = x.1) rfl (by omega) (fun _ => ?_) (fun h => absurd rfl h)
  refine hR.run0 (by omega) 1 (S' := (510, [some (vR 98), some (vR 0), some (vR 100), some (vR 120), some (vI i), some (vI x.1), some (vI (nmI x.2.1))], [vI x.1], LW x.2.2 κ2 x.2.2 ρ2 (oP x out))) rfl ?_
  refine hR.br (by omega) (C := x.1 ≠ 0) rfl (by omega) (fun _ => ?_) (fun h => ?_)
  · skip
    refine hR.run0 (by omega) 1 (S' := (2248, [some (vR 98), some (vR 0), some (vR 100), some (vR 120), some (vI i), some (vI x.1), some (vI (nmI x.2.1))], [], LW x.2.2 κ2 x.2.2 ρ2 (oP x out))) rfl ?_
    refine hR.2.2.2.2.2.2 _ 5 _ _ _ _ ?_
    refine hR.2.2.2.2.2.2 _ 6 _ _ _ _ ?_
    exact kont _ _ _ _ _ (Nat.le_refl _) hJ2
  · have h0 : x.1 = 0 := by omega
    have ho := oP_0 (out := out) h0
    have hnr := nmI_r x.2.1
    refine hR.run1 (by omega) 6 (S' := (520, [some (vR 98), some (vR 0), some (vR 100), some (vR 120), some (vI i), some (vI x.1), some (vI (nmI x.2.1))], [vI (if nmI x.2.1 < (oP x out) 0 then 1 else if (oP x out) 0 = nmI x.2.1 then 0 else -1)], LW x.2.2 κ2 x.2.2 ρ2 (oP x out))) rfl (by rw [ho]; omega) ?_
    refine hR.br (by omega) (C := (if nmI x.2.1 < (oP x out) 0 then (1 : Int) else if (oP x out) 0 = nmI x.2.1 then 0 else -1) = 0) rfl (by (repeat' split) <;> omega) (fun _ => ?_) (fun h => absurd (lc0.mpr ho) h)
    refine hR.run0 (by omega) 1 (S' := (2248, [some (vR 98), some (vR 0), some (vR 100), some (vR 120), some (vI i), some (vI x.1), some (vI (nmI x.2.1))], [], LW x.2.2 κ2 x.2.2 ρ2 (oP x out))) rfl ?_
    refine hR.2.2.2.2.2.2 _ 5 _ _ _ _ ?_
    refine hR.2.2.2.2.2.2 _ 6 _ _ _ _ ?_
    exact kont _ _ _ _ _ (Nat.le_refl _) hJ2
theorem kS_143 : sLinkW RL 143 mL_rob hhL_rob 5 := ⟨gT_at 524 (by decide +kernel) (by decide +kernel), gT_at 525 (by decide +kernel) (by decide +kernel), gT_at 0 (by decide +kernel) (by decide +kernel), gT_at 526 (by decide +kernel) (by decide +kernel), ⟨by decide +kernel, by decide +kernel, by decide +kernel⟩⟩
theorem kL_146 : vLink RL 146 mX6_rob 3 := ⟨gT_at 1112 (by decide +kernel) (by decide +kernel), wX6_rob⟩
set_option maxHeartbeats 4000000 in
theorem cs_rob {xs : Int → Int} {N : Nat} {G : Nat → PS → Prop} (hR : Rl lkL ((98, N, xs) :: roC) bL_law 100 G) (hx : N ≤ 2048 ∧ ∀ j, -2147483648 ≤ xs j ∧ xs j ≤ 2147483647) {τ κ ρ : St} {out : Int → Int} (hJ : Jv τ κ) {k : Nat} (hk : k < 600) {i : Int} (hi : 0 ≤ i ∧ i + 4 ≤ N) (kont : ∀ (τ κ ρ : St) (out : Int → Int) (j : Nat), j ≤ k + 1 → Jv τ κ → G j (2248, Lh_ i, [], LW τ κ τ ρ out)) : G k (528, Lh_ i, [], LW τ κ τ ρ out) := by
  have hN := hx.1
  have hxr := hx.2
  have hr1 := hxr (i + 1)
  have hr2 := hxr (i + 2)
  have hr3 := hxr (i + 3)
  have hro : ∀ q ∈ roC, q ∈ ((98, N, xs) :: roC : PRO) := fun q hq => List.mem_cons_of_mem _ hq
  have hw := wL_rob τ κ τ ρ out hro hr1 hr2 hr3 hJ.1
  have hm := fun (σ κ2 : St) (out2 : Int → Int) => frM (σ := σ) (κ := κ2) (out := out2) hro (pX6_rob τ ρ hr1 hr2 hr3 hJ.1)
  have hcd := cd_xRob τ (xs (i + 1)) (xs (i + 2)) (xs (i + 3))
  have hth : (sS ρ 0 (xRob τ (xs (i + 1)) (xs (i + 2)) (xs (i + 3))).1).1 0 = (xRob τ (xs (i + 1)) (xs (i + 2)) (xs (i + 3))).1 := rfl
  have hJ2 := J_rob hJ (xs (i + 1)) (xs (i + 2)) (xs (i + 3))
  generalize (sS ρ 0 (xRob τ (xs (i + 1)) (xs (i + 2)) (xs (i + 3))).1) = ρ2 at hm hth
  generalize xRob τ (xs (i + 1)) (xs (i + 2)) (xs (i + 3)) = x at hw hm hcd hth hJ2
  generalize (kRob κ τ (xs (i + 1)) (xs (i + 2)) (xs (i + 3))) = κ2 at hw hJ2
  refine hR.run1 (by omega) 17 (S' := (548, [some (vR 98), some (vR 0), some (vR 100), some (vR 120), some (vI i), none, none], [vR 120, vI (xs (i + 3)), vI (xs (i + 2)), vI (xs (i + 1)), vR 0], LW τ κ τ ρ out)) rfl (by omega) ?_
  refine hR.cw hk [vR 0, vI (xs (i + 1)), vI (xs (i + 2)), vI (xs (i + 3)), vR 120] kS_143 rfl rfl (by decide) (Nat.le_of_ble_eq_true rfl) (by decide) rfl hw ?_
  refine hR.run1 (by omega) 17 (S' := (572, [some (vR 98), some (vR 0), some (vR 100), some (vR 120), some (vI i), some (vI x.1), none], [vI (xs (i + 3)), vI (xs (i + 2)), vI (xs (i + 1)), vR 100], LW x.2.2 κ2 τ ρ (oP x out))) rfl (by omega) ?_
  refine hR.cv (by omega) [vI (xs (i + 1)), vI (xs (i + 2)), vI (xs (i + 3))] kL_146 rfl rfl ⟨_, _, _, rfl, rfl, rfl⟩ (by decide) (Nat.le_of_ble_eq_true rfl) (by decide) rfl (hm _ _ _) ?_
  show G (k + 1) (575, [some (vR 98), some (vR 0), some (vR 100), some (vR 120), some (vI i), some (vI x.1), none], [vI x.2.1], LW x.2.2 κ2 x.2.2 ρ2 (oP x out))
  refine hR.2.2.2.2.2.1 _ _ _ _ _ _ ?_
  refine hR.run0 (by omega) 2 (S' := (578, [some (vR 98), some (vR 0), some (vR 100), some (vR 120), some (vI i), some (vI x.1), some (vI (nmI x.2.1))], [vR 100], LW x.2.2 κ2 x.2.2 ρ2 (oP x out))) rfl ?_
  refine hR.cv (by omega) [] kL_127 rfl rfl ⟨_, _, _, rfl, rfl, rfl⟩ (by decide) (Nat.le_of_ble_eq_true rfl) (by decide) rfl (frM hro (sr_thrown _ _)) ?_
  show G (k + 1) (581, [some (vR 98), some (vR 0), some (vR 100), some (vR 120), some (vI i), some (vI x.1), some (vI (nmI x.2.1))], [vI (ρ2.1 0)], LW x.2.2 κ2 x.2.2 ρ2 (oP x out))
  rw [hth]
  refine hR.run0 (by omega) 1 (S' := (583, [some (vR 98), some (vR 0), some (vR 100), some (vR 120), some (vI i), some (vI x.1), some (vI (nmI x.2.1))], [vI x.1, vI x.1], LW x.2.2 κ2 x.2.2 ρ2 (oP x out))) rfl ?_
  refine hR.br (by omega) (C := x.1 = x.1) rfl (by omega) (fun _ => ?_) (fun h => absurd rfl h)
  refine hR.run0 (by omega) 1 (S' := (590, [some (vR 98), some (vR 0), some (vR 100), some (vR 120), some (vI i), some (vI x.1), some (vI (nmI x.2.1))], [vI x.1], LW x.2.2 κ2 x.2.2 ρ2 (oP x out))) rfl ?_
  refine hR.br (by omega) (C := x.1 ≠ 0) rfl (by omega) (fun _ => ?_) (fun h => ?_)
  · skip
    refine hR.run0 (by omega) 1 (S' := (2248, [some (vR 98), some (vR 0), some (vR 100), some (vR 120), some (vI i), some (vI x.1), some (vI (nmI x.2.1))], [], LW x.2.2 κ2 x.2.2 ρ2 (oP x out))) rfl ?_
    refine hR.2.2.2.2.2.2 _ 5 _ _ _ _ ?_
    refine hR.2.2.2.2.2.2 _ 6 _ _ _ _ ?_
    exact kont _ _ _ _ _ (Nat.le_refl _) hJ2
  · have h0 : x.1 = 0 := by omega
    have ho := oP_0 (out := out) h0
    have hnr := nmI_r x.2.1
    refine hR.run1 (by omega) 6 (S' := (600, [some (vR 98), some (vR 0), some (vR 100), some (vR 120), some (vI i), some (vI x.1), some (vI (nmI x.2.1))], [vI (if nmI x.2.1 < (oP x out) 0 then 1 else if (oP x out) 0 = nmI x.2.1 then 0 else -1)], LW x.2.2 κ2 x.2.2 ρ2 (oP x out))) rfl (by rw [ho]; omega) ?_
    refine hR.br (by omega) (C := (if nmI x.2.1 < (oP x out) 0 then (1 : Int) else if (oP x out) 0 = nmI x.2.1 then 0 else -1) = 0) rfl (by (repeat' split) <;> omega) (fun _ => ?_) (fun h => absurd (lc0.mpr ho) h)
    refine hR.run0 (by omega) 1 (S' := (2248, [some (vR 98), some (vR 0), some (vR 100), some (vR 120), some (vI i), some (vI x.1), some (vI (nmI x.2.1))], [], LW x.2.2 κ2 x.2.2 ρ2 (oP x out))) rfl ?_
    refine hR.2.2.2.2.2.2 _ 5 _ _ _ _ ?_
    refine hR.2.2.2.2.2.2 _ 6 _ _ _ _ ?_
    exact kont _ _ _ _ _ (Nat.le_refl _) hJ2
theorem kS_147 : sLinkW RL 147 mL_road hhL_road 3 := ⟨gT_at 557 (by decide +kernel) (by decide +kernel), gT_at 558 (by decide +kernel) (by decide +kernel), gT_at 0 (by decide +kernel) (by decide +kernel), gT_at 559 (by decide +kernel) (by decide +kernel), ⟨by decide +kernel, by decide +kernel, by decide +kernel⟩⟩
theorem kL_150 : vLink RL 150 mX6_road 1 := ⟨gT_at 1132 (by decide +kernel) (by decide +kernel), wX6_road⟩
set_option maxHeartbeats 4000000 in
theorem cs_road {xs : Int → Int} {N : Nat} {G : Nat → PS → Prop} (hR : Rl lkL ((98, N, xs) :: roC) bL_law 100 G) (hx : N ≤ 2048 ∧ ∀ j, -2147483648 ≤ xs j ∧ xs j ≤ 2147483647) {τ κ ρ : St} {out : Int → Int} (hJ : Jv τ κ) {k : Nat} (hk : k < 600) {i : Int} (hi : 0 ≤ i ∧ i + 4 ≤ N) (kont : ∀ (τ κ ρ : St) (out : Int → Int) (j : Nat), j ≤ k + 1 → Jv τ κ → G j (2248, Lh_ i, [], LW τ κ τ ρ out)) : G k (608, Lh_ i, [], LW τ κ τ ρ out) := by
  have hN := hx.1
  have hxr := hx.2
  have hr1 := hxr (i + 1)
  have hro : ∀ q ∈ roC, q ∈ ((98, N, xs) :: roC : PRO) := fun q hq => List.mem_cons_of_mem _ hq
  have hw := wL_road τ κ τ ρ out hro hr1 hJ.2.2.1 hJ.2.2.2.1 hJ.1
  have hm := fun (σ κ2 : St) (out2 : Int → Int) => frM (σ := σ) (κ := κ2) (out := out2) hro (pX6_road τ ρ hr1 hJ.1)
  have hcd := cd_xRoad τ (xs (i + 1))
  have hth : (rRoad τ ρ (xs (i + 1))).1 0 = (xRoad τ (xs (i + 1))).1 := r1_rRoad τ ρ (xs (i + 1))
  have hJ2 := J_road hJ (xs (i + 1))
  generalize (rRoad τ ρ (xs (i + 1))) = ρ2 at hm hth
  generalize xRoad τ (xs (i + 1)) = x at hw hm hcd hth hJ2
  generalize (kRoad κ τ (xs (i + 1))) = κ2 at hw hJ2
  refine hR.run1 (by omega) 7 (S' := (616, [some (vR 98), some (vR 0), some (vR 100), some (vR 120), some (vI i), none, none], [vR 120, vI (xs (i + 1)), vR 0], LW τ κ τ ρ out)) rfl (by omega) ?_
  refine hR.cw hk [vR 0, vI (xs (i + 1)), vR 120] kS_147 rfl rfl (by decide) (Nat.le_of_ble_eq_true rfl) (by decide) rfl hw ?_
  refine hR.run1 (by omega) 7 (S' := (628, [some (vR 98), some (vR 0), some (vR 100), some (vR 120), some (vI i), some (vI x.1), none], [vI (xs (i + 1)), vR 100], LW x.2.2 κ2 τ ρ (oP x out))) rfl (by omega) ?_
  refine hR.cv (by omega) [vI (xs (i + 1))] kL_150 rfl rfl ⟨_, _, _, rfl, rfl, rfl⟩ (by decide) (Nat.le_of_ble_eq_true rfl) (by decide) rfl (hm _ _ _) ?_
  show G (k + 1) (631, [some (vR 98), some (vR 0), some (vR 100), some (vR 120), some (vI i), some (vI x.1), none], [vI x.2.1], LW x.2.2 κ2 x.2.2 ρ2 (oP x out))
  refine hR.2.2.2.2.2.1 _ _ _ _ _ _ ?_
  refine hR.run0 (by omega) 2 (S' := (634, [some (vR 98), some (vR 0), some (vR 100), some (vR 120), some (vI i), some (vI x.1), some (vI (nmI x.2.1))], [vR 100], LW x.2.2 κ2 x.2.2 ρ2 (oP x out))) rfl ?_
  refine hR.cv (by omega) [] kL_127 rfl rfl ⟨_, _, _, rfl, rfl, rfl⟩ (by decide) (Nat.le_of_ble_eq_true rfl) (by decide) rfl (frM hro (sr_thrown _ _)) ?_
  show G (k + 1) (637, [some (vR 98), some (vR 0), some (vR 100), some (vR 120), some (vI i), some (vI x.1), some (vI (nmI x.2.1))], [vI (ρ2.1 0)], LW x.2.2 κ2 x.2.2 ρ2 (oP x out))
  rw [hth]
  refine hR.run0 (by omega) 1 (S' := (639, [some (vR 98), some (vR 0), some (vR 100), some (vR 120), some (vI i), some (vI x.1), some (vI (nmI x.2.1))], [vI x.1, vI x.1], LW x.2.2 κ2 x.2.2 ρ2 (oP x out))) rfl ?_
  refine hR.br (by omega) (C := x.1 = x.1) rfl (by omega) (fun _ => ?_) (fun h => absurd rfl h)
  refine hR.run0 (by omega) 1 (S' := (646, [some (vR 98), some (vR 0), some (vR 100), some (vR 120), some (vI i), some (vI x.1), some (vI (nmI x.2.1))], [vI x.1], LW x.2.2 κ2 x.2.2 ρ2 (oP x out))) rfl ?_
  refine hR.br (by omega) (C := x.1 ≠ 0) rfl (by omega) (fun _ => ?_) (fun h => ?_)
  · skip
    refine hR.run0 (by omega) 1 (S' := (2248, [some (vR 98), some (vR 0), some (vR 100), some (vR 120), some (vI i), some (vI x.1), some (vI (nmI x.2.1))], [], LW x.2.2 κ2 x.2.2 ρ2 (oP x out))) rfl ?_
    refine hR.2.2.2.2.2.2 _ 5 _ _ _ _ ?_
    refine hR.2.2.2.2.2.2 _ 6 _ _ _ _ ?_
    exact kont _ _ _ _ _ (Nat.le_refl _) hJ2
  · have h0 : x.1 = 0 := by omega
    have ho := oP_0 (out := out) h0
    have hnr := nmI_r x.2.1
    refine hR.run1 (by omega) 6 (S' := (656, [some (vR 98), some (vR 0), some (vR 100), some (vR 120), some (vI i), some (vI x.1), some (vI (nmI x.2.1))], [vI (if nmI x.2.1 < (oP x out) 0 then 1 else if (oP x out) 0 = nmI x.2.1 then 0 else -1)], LW x.2.2 κ2 x.2.2 ρ2 (oP x out))) rfl (by rw [ho]; omega) ?_
    refine hR.br (by omega) (C := (if nmI x.2.1 < (oP x out) 0 then (1 : Int) else if (oP x out) 0 = nmI x.2.1 then 0 else -1) = 0) rfl (by (repeat' split) <;> omega) (fun _ => ?_) (fun h => absurd (lc0.mpr ho) h)
    refine hR.run0 (by omega) 1 (S' := (2248, [some (vR 98), some (vR 0), some (vR 100), some (vR 120), some (vI i), some (vI x.1), some (vI (nmI x.2.1))], [], LW x.2.2 κ2 x.2.2 ρ2 (oP x out))) rfl ?_
    refine hR.2.2.2.2.2.2 _ 5 _ _ _ _ ?_
    refine hR.2.2.2.2.2.2 _ 6 _ _ _ _ ?_
    exact kont _ _ _ _ _ (Nat.le_refl _) hJ2
theorem kS_151 : sLinkW RL 151 mL_house hhL_house 3 := ⟨gT_at 586 (by decide +kernel) (by decide +kernel), gT_at 587 (by decide +kernel) (by decide +kernel), gT_at 0 (by decide +kernel) (by decide +kernel), gT_at 588 (by decide +kernel) (by decide +kernel), ⟨by decide +kernel, by decide +kernel, by decide +kernel⟩⟩
theorem kL_153 : vLink RL 153 mX6_house 1 := ⟨gT_at 1172 (by decide +kernel) (by decide +kernel), wX6_house⟩
set_option maxHeartbeats 4000000 in
theorem cs_house {xs : Int → Int} {N : Nat} {G : Nat → PS → Prop} (hR : Rl lkL ((98, N, xs) :: roC) bL_law 100 G) (hx : N ≤ 2048 ∧ ∀ j, -2147483648 ≤ xs j ∧ xs j ≤ 2147483647) {τ κ ρ : St} {out : Int → Int} (hJ : Jv τ κ) {k : Nat} (hk : k < 600) {i : Int} (hi : 0 ≤ i ∧ i + 4 ≤ N) (kont : ∀ (τ κ ρ : St) (out : Int → Int) (j : Nat), j ≤ k + 1 → Jv τ κ → G j (2248, Lh_ i, [], LW τ κ τ ρ out)) : G k (664, Lh_ i, [], LW τ κ τ ρ out) := by
  have hN := hx.1
  have hxr := hx.2
  have hr1 := hxr (i + 1)
  have hro : ∀ q ∈ roC, q ∈ ((98, N, xs) :: roC : PRO) := fun q hq => List.mem_cons_of_mem _ hq
  have hw := wL_house τ κ τ ρ out hro hr1 hJ.2.2.1 hJ.2.2.2.1 hJ.1
  have hm := fun (σ κ2 : St) (out2 : Int → Int) => frM (σ := σ) (κ := κ2) (out := out2) hro (pX6_house τ ρ hr1 hJ.1)
  have hcd := cd_xHouse τ (xs (i + 1))
  have hth : (rHouse τ ρ (xs (i + 1))).1 0 = (xHouse τ (xs (i + 1))).1 := r1_rHouse τ ρ (xs (i + 1))
  have hJ2 := J_house hJ (xs (i + 1))
  generalize (rHouse τ ρ (xs (i + 1))) = ρ2 at hm hth
  generalize xHouse τ (xs (i + 1)) = x at hw hm hcd hth hJ2
  generalize (kHouse κ τ (xs (i + 1))) = κ2 at hw hJ2
  refine hR.run1 (by omega) 7 (S' := (672, [some (vR 98), some (vR 0), some (vR 100), some (vR 120), some (vI i), none, none], [vR 120, vI (xs (i + 1)), vR 0], LW τ κ τ ρ out)) rfl (by omega) ?_
  refine hR.cw hk [vR 0, vI (xs (i + 1)), vR 120] kS_151 rfl rfl (by decide) (Nat.le_of_ble_eq_true rfl) (by decide) rfl hw ?_
  refine hR.run1 (by omega) 7 (S' := (684, [some (vR 98), some (vR 0), some (vR 100), some (vR 120), some (vI i), some (vI x.1), none], [vI (xs (i + 1)), vR 100], LW x.2.2 κ2 τ ρ (oP x out))) rfl (by omega) ?_
  refine hR.cv (by omega) [vI (xs (i + 1))] kL_153 rfl rfl ⟨_, _, _, rfl, rfl, rfl⟩ (by decide) (Nat.le_of_ble_eq_true rfl) (by decide) rfl (hm _ _ _) ?_
  show G (k + 1) (687, [some (vR 98), some (vR 0), some (vR 100), some (vR 120), some (vI i), some (vI x.1), none], [vI x.2.1], LW x.2.2 κ2 x.2.2 ρ2 (oP x out))
  refine hR.2.2.2.2.2.1 _ _ _ _ _ _ ?_
  refine hR.run0 (by omega) 2 (S' := (690, [some (vR 98), some (vR 0), some (vR 100), some (vR 120), some (vI i), some (vI x.1), some (vI (nmI x.2.1))], [vR 100], LW x.2.2 κ2 x.2.2 ρ2 (oP x out))) rfl ?_
  refine hR.cv (by omega) [] kL_127 rfl rfl ⟨_, _, _, rfl, rfl, rfl⟩ (by decide) (Nat.le_of_ble_eq_true rfl) (by decide) rfl (frM hro (sr_thrown _ _)) ?_
  show G (k + 1) (693, [some (vR 98), some (vR 0), some (vR 100), some (vR 120), some (vI i), some (vI x.1), some (vI (nmI x.2.1))], [vI (ρ2.1 0)], LW x.2.2 κ2 x.2.2 ρ2 (oP x out))
  rw [hth]
  refine hR.run0 (by omega) 1 (S' := (695, [some (vR 98), some (vR 0), some (vR 100), some (vR 120), some (vI i), some (vI x.1), some (vI (nmI x.2.1))], [vI x.1, vI x.1], LW x.2.2 κ2 x.2.2 ρ2 (oP x out))) rfl ?_
  refine hR.br (by omega) (C := x.1 = x.1) rfl (by omega) (fun _ => ?_) (fun h => absurd rfl h)
  refine hR.run0 (by omega) 1 (S' := (702, [some (vR 98), some (vR 0), some (vR 100), some (vR 120), some (vI i), some (vI x.1), some (vI (nmI x.2.1))], [vI x.1], LW x.2.2 κ2 x.2.2 ρ2 (oP x out))) rfl ?_
  refine hR.br (by omega) (C := x.1 ≠ 0) rfl (by omega) (fun _ => ?_) (fun h => ?_)
  · skip
    refine hR.run0 (by omega) 1 (S' := (2248, [some (vR 98), some (vR 0), some (vR 100), some (vR 120), some (vI i), some (vI x.1), some (vI (nmI x.2.1))], [], LW x.2.2 κ2 x.2.2 ρ2 (oP x out))) rfl ?_
    refine hR.2.2.2.2.2.2 _ 5 _ _ _ _ ?_
    refine hR.2.2.2.2.2.2 _ 6 _ _ _ _ ?_
    exact kont _ _ _ _ _ (Nat.le_refl _) hJ2
  · have h0 : x.1 = 0 := by omega
    have ho := oP_0 (out := out) h0
    have hnr := nmI_r x.2.1
    refine hR.run1 (by omega) 6 (S' := (712, [some (vR 98), some (vR 0), some (vR 100), some (vR 120), some (vI i), some (vI x.1), some (vI (nmI x.2.1))], [vI (if nmI x.2.1 < (oP x out) 0 then 1 else if (oP x out) 0 = nmI x.2.1 then 0 else -1)], LW x.2.2 κ2 x.2.2 ρ2 (oP x out))) rfl (by rw [ho]; omega) ?_
    refine hR.br (by omega) (C := (if nmI x.2.1 < (oP x out) 0 then (1 : Int) else if (oP x out) 0 = nmI x.2.1 then 0 else -1) = 0) rfl (by (repeat' split) <;> omega) (fun _ => ?_) (fun h => absurd (lc0.mpr ho) h)
    refine hR.run0 (by omega) 1 (S' := (2248, [some (vR 98), some (vR 0), some (vR 100), some (vR 120), some (vI i), some (vI x.1), some (vI (nmI x.2.1))], [], LW x.2.2 κ2 x.2.2 ρ2 (oP x out))) rfl ?_
    refine hR.2.2.2.2.2.2 _ 5 _ _ _ _ ?_
    refine hR.2.2.2.2.2.2 _ 6 _ _ _ _ ?_
    exact kont _ _ _ _ _ (Nat.le_refl _) hJ2
theorem kS_154 : sLinkW RL 154 mL_city hhL_city 3 := ⟨gT_at 594 (by decide +kernel) (by decide +kernel), gT_at 595 (by decide +kernel) (by decide +kernel), gT_at 0 (by decide +kernel) (by decide +kernel), gT_at 596 (by decide +kernel) (by decide +kernel), ⟨by decide +kernel, by decide +kernel, by decide +kernel⟩⟩
theorem kL_156 : vLink RL 156 mX6_city 1 := ⟨gT_at 1176 (by decide +kernel) (by decide +kernel), wX6_city⟩
set_option maxHeartbeats 4000000 in
theorem cs_city {xs : Int → Int} {N : Nat} {G : Nat → PS → Prop} (hR : Rl lkL ((98, N, xs) :: roC) bL_law 100 G) (hx : N ≤ 2048 ∧ ∀ j, -2147483648 ≤ xs j ∧ xs j ≤ 2147483647) {τ κ ρ : St} {out : Int → Int} (hJ : Jv τ κ) {k : Nat} (hk : k < 600) {i : Int} (hi : 0 ≤ i ∧ i + 4 ≤ N) (kont : ∀ (τ κ ρ : St) (out : Int → Int) (j : Nat), j ≤ k + 1 → Jv τ κ → G j (2248, Lh_ i, [], LW τ κ τ ρ out)) : G k (720, Lh_ i, [], LW τ κ τ ρ out) := by
  have hN := hx.1
  have hxr := hx.2
  have hr1 := hxr (i + 1)
  have hro : ∀ q ∈ roC, q ∈ ((98, N, xs) :: roC : PRO) := fun q hq => List.mem_cons_of_mem _ hq
  have hw := wL_city τ κ τ ρ out hro hr1 hJ.2.2.1 hJ.2.2.2.1 hJ.1
  have hm := fun (σ κ2 : St) (out2 : Int → Int) => frM (σ := σ) (κ := κ2) (out := out2) hro (pX6_city τ ρ hr1 hJ.1)
  have hcd := cd_xCity τ (xs (i + 1))
  have hth : (rCity τ ρ (xs (i + 1))).1 0 = (xCity τ (xs (i + 1))).1 := r1_rCity τ ρ (xs (i + 1))
  have hJ2 := J_city hJ (xs (i + 1))
  generalize (rCity τ ρ (xs (i + 1))) = ρ2 at hm hth
  generalize xCity τ (xs (i + 1)) = x at hw hm hcd hth hJ2
  generalize (kCity κ τ (xs (i + 1))) = κ2 at hw hJ2
  refine hR.run1 (by omega) 7 (S' := (728, [some (vR 98), some (vR 0), some (vR 100), some (vR 120), some (vI i), none, none], [vR 120, vI (xs (i + 1)), vR 0], LW τ κ τ ρ out)) rfl (by omega) ?_
  refine hR.cw hk [vR 0, vI (xs (i + 1)), vR 120] kS_154 rfl rfl (by decide) (Nat.le_of_ble_eq_true rfl) (by decide) rfl hw ?_
  refine hR.run1 (by omega) 7 (S' := (740, [some (vR 98), some (vR 0), some (vR 100), some (vR 120), some (vI i), some (vI x.1), none], [vI (xs (i + 1)), vR 100], LW x.2.2 κ2 τ ρ (oP x out))) rfl (by omega) ?_
  refine hR.cv (by omega) [vI (xs (i + 1))] kL_156 rfl rfl ⟨_, _, _, rfl, rfl, rfl⟩ (by decide) (Nat.le_of_ble_eq_true rfl) (by decide) rfl (hm _ _ _) ?_
  show G (k + 1) (743, [some (vR 98), some (vR 0), some (vR 100), some (vR 120), some (vI i), some (vI x.1), none], [vI x.2.1], LW x.2.2 κ2 x.2.2 ρ2 (oP x out))
  refine hR.2.2.2.2.2.1 _ _ _ _ _ _ ?_
  refine hR.run0 (by omega) 2 (S' := (746, [some (vR 98), some (vR 0), some (vR 100), some (vR 120), some (vI i), some (vI x.1), some (vI (nmI x.2.1))], [vR 100], LW x.2.2 κ2 x.2.2 ρ2 (oP x out))) rfl ?_
  refine hR.cv (by omega) [] kL_127 rfl rfl ⟨_, _, _, rfl, rfl, rfl⟩ (by decide) (Nat.le_of_ble_eq_true rfl) (by decide) rfl (frM hro (sr_thrown _ _)) ?_
  show G (k + 1) (749, [some (vR 98), some (vR 0), some (vR 100), some (vR 120), some (vI i), some (vI x.1), some (vI (nmI x.2.1))], [vI (ρ2.1 0)], LW x.2.2 κ2 x.2.2 ρ2 (oP x out))
  rw [hth]
  refine hR.run0 (by omega) 1 (S' := (751, [some (vR 98), some (vR 0), some (vR 100), some (vR 120), some (vI i), some (vI x.1), some (vI (nmI x.2.1))], [vI x.1, vI x.1], LW x.2.2 κ2 x.2.2 ρ2 (oP x out))) rfl ?_
  refine hR.br (by omega) (C := x.1 = x.1) rfl (by omega) (fun _ => ?_) (fun h => absurd rfl h)
  refine hR.run0 (by omega) 1 (S' := (758, [some (vR 98), some (vR 0), some (vR 100), some (vR 120), some (vI i), some (vI x.1), some (vI (nmI x.2.1))], [vI x.1], LW x.2.2 κ2 x.2.2 ρ2 (oP x out))) rfl ?_
  refine hR.br (by omega) (C := x.1 ≠ 0) rfl (by omega) (fun _ => ?_) (fun h => ?_)
  · skip
    refine hR.run0 (by omega) 1 (S' := (2248, [some (vR 98), some (vR 0), some (vR 100), some (vR 120), some (vI i), some (vI x.1), some (vI (nmI x.2.1))], [], LW x.2.2 κ2 x.2.2 ρ2 (oP x out))) rfl ?_
    refine hR.2.2.2.2.2.2 _ 5 _ _ _ _ ?_
    refine hR.2.2.2.2.2.2 _ 6 _ _ _ _ ?_
    exact kont _ _ _ _ _ (Nat.le_refl _) hJ2
  · have h0 : x.1 = 0 := by omega
    have ho := oP_0 (out := out) h0
    have hnr := nmI_r x.2.1
    refine hR.run1 (by omega) 6 (S' := (768, [some (vR 98), some (vR 0), some (vR 100), some (vR 120), some (vI i), some (vI x.1), some (vI (nmI x.2.1))], [vI (if nmI x.2.1 < (oP x out) 0 then 1 else if (oP x out) 0 = nmI x.2.1 then 0 else -1)], LW x.2.2 κ2 x.2.2 ρ2 (oP x out))) rfl (by rw [ho]; omega) ?_
    refine hR.br (by omega) (C := (if nmI x.2.1 < (oP x out) 0 then (1 : Int) else if (oP x out) 0 = nmI x.2.1 then 0 else -1) = 0) rfl (by (repeat' split) <;> omega) (fun _ => ?_) (fun h => absurd (lc0.mpr ho) h)
    refine hR.run0 (by omega) 1 (S' := (2248, [some (vR 98), some (vR 0), some (vR 100), some (vR 120), some (vI i), some (vI x.1), some (vI (nmI x.2.1))], [], LW x.2.2 κ2 x.2.2 ρ2 (oP x out))) rfl ?_
    refine hR.2.2.2.2.2.2 _ 5 _ _ _ _ ?_
    refine hR.2.2.2.2.2.2 _ 6 _ _ _ _ ?_
    exact kont _ _ _ _ _ (Nat.le_refl _) hJ2
theorem kS_157 : sLinkW RL 157 mL_buy hhL_buy 2 := ⟨gT_at 602 (by decide +kernel) (by decide +kernel), gT_at 603 (by decide +kernel) (by decide +kernel), gT_at 0 (by decide +kernel) (by decide +kernel), gT_at 604 (by decide +kernel) (by decide +kernel), ⟨by decide +kernel, by decide +kernel, by decide +kernel⟩⟩
theorem kL_160 : vLink RL 160 mX6_buy 0 := ⟨gT_at 1180 (by decide +kernel) (by decide +kernel), wX6_buy⟩
set_option maxHeartbeats 4000000 in
theorem cs_buy {xs : Int → Int} {N : Nat} {G : Nat → PS → Prop} (hR : Rl lkL ((98, N, xs) :: roC) bL_law 100 G) (hx : N ≤ 2048 ∧ ∀ j, -2147483648 ≤ xs j ∧ xs j ≤ 2147483647) {τ κ ρ : St} {out : Int → Int} (hJ : Jv τ κ) {k : Nat} (hk : k < 600) {i : Int} (hi : 0 ≤ i ∧ i + 4 ≤ N) (kont : ∀ (τ κ ρ : St) (out : Int → Int) (j : Nat), j ≤ k + 1 → Jv τ κ → G j (2248, Lh_ i, [], LW τ κ τ ρ out)) : G k (776, Lh_ i, [], LW τ κ τ ρ out) := by
  have hN := hx.1
  have hxr := hx.2
  have hro : ∀ q ∈ roC, q ∈ ((98, N, xs) :: roC : PRO) := fun q hq => List.mem_cons_of_mem _ hq
  have hw := wL_buy τ κ τ ρ out hro hJ.1
  have hm := fun (σ κ2 : St) (out2 : Int → Int) => frM (σ := σ) (κ := κ2) (out := out2) hro (pX6_buy τ ρ hJ.1)
  have hcd := cd_xBuy τ
  have hth : (sS ρ 0 (xBuy τ).1).1 0 = (xBuy τ).1 := rfl
  have hJ2 := J_buy hJ
  generalize (sS ρ 0 (xBuy τ).1) = ρ2 at hm hth
  generalize xBuy τ = x at hw hm hcd hth hJ2
  generalize (kBuy κ τ) = κ2 at hw hJ2
  refine hR.run0 (by omega) 2 (S' := (778, [some (vR 98), some (vR 0), some (vR 100), some (vR 120), some (vI i), none, none], [vR 120, vR 0], LW τ κ τ ρ out)) rfl ?_
  refine hR.cw hk [vR 0, vR 120] kS_157 rfl rfl (by decide) (Nat.le_of_ble_eq_true rfl) (by decide) rfl hw ?_
  refine hR.run0 (by omega) 2 (S' := (784, [some (vR 98), some (vR 0), some (vR 100), some (vR 120), some (vI i), some (vI x.1), none], [vR 100], LW x.2.2 κ2 τ ρ (oP x out))) rfl ?_
  refine hR.cv (by omega) [] kL_160 rfl rfl ⟨_, _, _, rfl, rfl, rfl⟩ (by decide) (Nat.le_of_ble_eq_true rfl) (by decide) rfl (hm _ _ _) ?_
  show G (k + 1) (787, [some (vR 98), some (vR 0), some (vR 100), some (vR 120), some (vI i), some (vI x.1), none], [vI x.2.1], LW x.2.2 κ2 x.2.2 ρ2 (oP x out))
  refine hR.2.2.2.2.2.1 _ _ _ _ _ _ ?_
  refine hR.run0 (by omega) 2 (S' := (790, [some (vR 98), some (vR 0), some (vR 100), some (vR 120), some (vI i), some (vI x.1), some (vI (nmI x.2.1))], [vR 100], LW x.2.2 κ2 x.2.2 ρ2 (oP x out))) rfl ?_
  refine hR.cv (by omega) [] kL_127 rfl rfl ⟨_, _, _, rfl, rfl, rfl⟩ (by decide) (Nat.le_of_ble_eq_true rfl) (by decide) rfl (frM hro (sr_thrown _ _)) ?_
  show G (k + 1) (793, [some (vR 98), some (vR 0), some (vR 100), some (vR 120), some (vI i), some (vI x.1), some (vI (nmI x.2.1))], [vI (ρ2.1 0)], LW x.2.2 κ2 x.2.2 ρ2 (oP x out))
  rw [hth]
  refine hR.run0 (by omega) 1 (S' := (795, [some (vR 98), some (vR 0), some (vR 100), some (vR 120), some (vI i), some (vI x.1), some (vI (nmI x.2.1))], [vI x.1, vI x.1], LW x.2.2 κ2 x.2.2 ρ2 (oP x out))) rfl ?_
  refine hR.br (by omega) (C := x.1 = x.1) rfl (by omega) (fun _ => ?_) (fun h => absurd rfl h)
  refine hR.run0 (by omega) 1 (S' := (802, [some (vR 98), some (vR 0), some (vR 100), some (vR 120), some (vI i), some (vI x.1), some (vI (nmI x.2.1))], [vI x.1], LW x.2.2 κ2 x.2.2 ρ2 (oP x out))) rfl ?_
  refine hR.br (by omega) (C := x.1 ≠ 0) rfl (by omega) (fun _ => ?_) (fun h => ?_)
  · skip
    refine hR.run0 (by omega) 1 (S' := (2248, [some (vR 98), some (vR 0), some (vR 100), some (vR 120), some (vI i), some (vI x.1), some (vI (nmI x.2.1))], [], LW x.2.2 κ2 x.2.2 ρ2 (oP x out))) rfl ?_
    refine hR.2.2.2.2.2.2 _ 5 _ _ _ _ ?_
    refine hR.2.2.2.2.2.2 _ 6 _ _ _ _ ?_
    exact kont _ _ _ _ _ (Nat.le_refl _) hJ2
  · have h0 : x.1 = 0 := by omega
    have ho := oP_0 (out := out) h0
    have hnr := nmI_r x.2.1
    refine hR.run1 (by omega) 6 (S' := (812, [some (vR 98), some (vR 0), some (vR 100), some (vR 120), some (vI i), some (vI x.1), some (vI (nmI x.2.1))], [vI (if nmI x.2.1 < (oP x out) 0 then 1 else if (oP x out) 0 = nmI x.2.1 then 0 else -1)], LW x.2.2 κ2 x.2.2 ρ2 (oP x out))) rfl (by rw [ho]; omega) ?_
    refine hR.br (by omega) (C := (if nmI x.2.1 < (oP x out) 0 then (1 : Int) else if (oP x out) 0 = nmI x.2.1 then 0 else -1) = 0) rfl (by (repeat' split) <;> omega) (fun _ => ?_) (fun h => absurd (lc0.mpr ho) h)
    refine hR.run0 (by omega) 1 (S' := (2248, [some (vR 98), some (vR 0), some (vR 100), some (vR 120), some (vI i), some (vI x.1), some (vI (nmI x.2.1))], [], LW x.2.2 κ2 x.2.2 ρ2 (oP x out))) rfl ?_
    refine hR.2.2.2.2.2.2 _ 5 _ _ _ _ ?_
    refine hR.2.2.2.2.2.2 _ 6 _ _ _ _ ?_
    exact kont _ _ _ _ _ (Nat.le_refl _) hJ2
theorem kS_161 : sLinkW RL 161 mL_knight hhL_knight 5 := ⟨gT_at 619 (by decide +kernel) (by decide +kernel), gT_at 620 (by decide +kernel) (by decide +kernel), gT_at 0 (by decide +kernel) (by decide +kernel), gT_at 621 (by decide +kernel) (by decide +kernel), ⟨by decide +kernel, by decide +kernel, by decide +kernel⟩⟩
theorem kL_163 : vLink RL 163 mX6_knight 3 := ⟨gT_at 1187 (by decide +kernel) (by decide +kernel), wX6_knight⟩
set_option maxHeartbeats 4000000 in
theorem cs_knight {xs : Int → Int} {N : Nat} {G : Nat → PS → Prop} (hR : Rl lkL ((98, N, xs) :: roC) bL_law 100 G) (hx : N ≤ 2048 ∧ ∀ j, -2147483648 ≤ xs j ∧ xs j ≤ 2147483647) {τ κ ρ : St} {out : Int → Int} (hJ : Jv τ κ) {k : Nat} (hk : k < 600) {i : Int} (hi : 0 ≤ i ∧ i + 4 ≤ N) (kont : ∀ (τ κ ρ : St) (out : Int → Int) (j : Nat), j ≤ k + 1 → Jv τ κ → G j (2248, Lh_ i, [], LW τ κ τ ρ out)) : G k (820, Lh_ i, [], LW τ κ τ ρ out) := by
  have hN := hx.1
  have hxr := hx.2
  have hr1 := hxr (i + 1)
  have hr2 := hxr (i + 2)
  have hr3 := hxr (i + 3)
  have hro : ∀ q ∈ roC, q ∈ ((98, N, xs) :: roC : PRO) := fun q hq => List.mem_cons_of_mem _ hq
  have hw := wL_knight τ κ τ ρ out hro hr1 hr2 hr3 hJ.1
  have hm := fun (σ κ2 : St) (out2 : Int → Int) => frM (σ := σ) (κ := κ2) (out := out2) hro (pX6_knight τ ρ hr1 hr2 hr3 hJ.1)
  have hcd := cd_xKnight τ (xs (i + 1)) (xs (i + 2)) (xs (i + 3))
  have hth : (sS ρ 0 (xKnight τ (xs (i + 1)) (xs (i + 2)) (xs (i + 3))).1).1 0 = (xKnight τ (xs (i + 1)) (xs (i + 2)) (xs (i + 3))).1 := rfl
  have hJ2 := J_knight hJ (xs (i + 1)) (xs (i + 2)) (xs (i + 3))
  generalize (sS ρ 0 (xKnight τ (xs (i + 1)) (xs (i + 2)) (xs (i + 3))).1) = ρ2 at hm hth
  generalize xKnight τ (xs (i + 1)) (xs (i + 2)) (xs (i + 3)) = x at hw hm hcd hth hJ2
  generalize (kKnight κ τ (xs (i + 1)) (xs (i + 2)) (xs (i + 3))) = κ2 at hw hJ2
  refine hR.run1 (by omega) 17 (S' := (840, [some (vR 98), some (vR 0), some (vR 100), some (vR 120), some (vI i), none, none], [vR 120, vI (xs (i + 3)), vI (xs (i + 2)), vI (xs (i + 1)), vR 0], LW τ κ τ ρ out)) rfl (by omega) ?_
  refine hR.cw hk [vR 0, vI (xs (i + 1)), vI (xs (i + 2)), vI (xs (i + 3)), vR 120] kS_161 rfl rfl (by decide) (Nat.le_of_ble_eq_true rfl) (by decide) rfl hw ?_
  refine hR.run1 (by omega) 17 (S' := (864, [some (vR 98), some (vR 0), some (vR 100), some (vR 120), some (vI i), some (vI x.1), none], [vI (xs (i + 3)), vI (xs (i + 2)), vI (xs (i + 1)), vR 100], LW x.2.2 κ2 τ ρ (oP x out))) rfl (by omega) ?_
  refine hR.cv (by omega) [vI (xs (i + 1)), vI (xs (i + 2)), vI (xs (i + 3))] kL_163 rfl rfl ⟨_, _, _, rfl, rfl, rfl⟩ (by decide) (Nat.le_of_ble_eq_true rfl) (by decide) rfl (hm _ _ _) ?_
  show G (k + 1) (867, [some (vR 98), some (vR 0), some (vR 100), some (vR 120), some (vI i), some (vI x.1), none], [vI x.2.1], LW x.2.2 κ2 x.2.2 ρ2 (oP x out))
  refine hR.2.2.2.2.2.1 _ _ _ _ _ _ ?_
  refine hR.run0 (by omega) 2 (S' := (870, [some (vR 98), some (vR 0), some (vR 100), some (vR 120), some (vI i), some (vI x.1), some (vI (nmI x.2.1))], [vR 100], LW x.2.2 κ2 x.2.2 ρ2 (oP x out))) rfl ?_
  refine hR.cv (by omega) [] kL_127 rfl rfl ⟨_, _, _, rfl, rfl, rfl⟩ (by decide) (Nat.le_of_ble_eq_true rfl) (by decide) rfl (frM hro (sr_thrown _ _)) ?_
  show G (k + 1) (873, [some (vR 98), some (vR 0), some (vR 100), some (vR 120), some (vI i), some (vI x.1), some (vI (nmI x.2.1))], [vI (ρ2.1 0)], LW x.2.2 κ2 x.2.2 ρ2 (oP x out))
  rw [hth]
  refine hR.run0 (by omega) 1 (S' := (875, [some (vR 98), some (vR 0), some (vR 100), some (vR 120), some (vI i), some (vI x.1), some (vI (nmI x.2.1))], [vI x.1, vI x.1], LW x.2.2 κ2 x.2.2 ρ2 (oP x out))) rfl ?_
  refine hR.br (by omega) (C := x.1 = x.1) rfl (by omega) (fun _ => ?_) (fun h => absurd rfl h)
  refine hR.run0 (by omega) 1 (S' := (882, [some (vR 98), some (vR 0), some (vR 100), some (vR 120), some (vI i), some (vI x.1), some (vI (nmI x.2.1))], [vI x.1], LW x.2.2 κ2 x.2.2 ρ2 (oP x out))) rfl ?_
  refine hR.br (by omega) (C := x.1 ≠ 0) rfl (by omega) (fun _ => ?_) (fun h => ?_)
  · skip
    refine hR.run0 (by omega) 1 (S' := (2248, [some (vR 98), some (vR 0), some (vR 100), some (vR 120), some (vI i), some (vI x.1), some (vI (nmI x.2.1))], [], LW x.2.2 κ2 x.2.2 ρ2 (oP x out))) rfl ?_
    refine hR.2.2.2.2.2.2 _ 5 _ _ _ _ ?_
    refine hR.2.2.2.2.2.2 _ 6 _ _ _ _ ?_
    exact kont _ _ _ _ _ (Nat.le_refl _) hJ2
  · have h0 : x.1 = 0 := by omega
    have ho := oP_0 (out := out) h0
    have hnr := nmI_r x.2.1
    refine hR.run1 (by omega) 6 (S' := (892, [some (vR 98), some (vR 0), some (vR 100), some (vR 120), some (vI i), some (vI x.1), some (vI (nmI x.2.1))], [vI (if nmI x.2.1 < (oP x out) 0 then 1 else if (oP x out) 0 = nmI x.2.1 then 0 else -1)], LW x.2.2 κ2 x.2.2 ρ2 (oP x out))) rfl (by rw [ho]; omega) ?_
    refine hR.br (by omega) (C := (if nmI x.2.1 < (oP x out) 0 then (1 : Int) else if (oP x out) 0 = nmI x.2.1 then 0 else -1) = 0) rfl (by (repeat' split) <;> omega) (fun _ => ?_) (fun h => absurd (lc0.mpr ho) h)
    refine hR.run0 (by omega) 1 (S' := (2248, [some (vR 98), some (vR 0), some (vR 100), some (vR 120), some (vI i), some (vI x.1), some (vI (nmI x.2.1))], [], LW x.2.2 κ2 x.2.2 ρ2 (oP x out))) rfl ?_
    refine hR.2.2.2.2.2.2 _ 5 _ _ _ _ ?_
    refine hR.2.2.2.2.2.2 _ 6 _ _ _ _ ?_
    exact kont _ _ _ _ _ (Nat.le_refl _) hJ2
theorem kS_164 : sLinkW RL 164 mL_roads hhL_roads 4 := ⟨gT_at 647 (by decide +kernel) (by decide +kernel), gT_at 648 (by decide +kernel) (by decide +kernel), gT_at 0 (by decide +kernel) (by decide +kernel), gT_at 649 (by decide +kernel) (by decide +kernel), ⟨by decide +kernel, by decide +kernel, by decide +kernel⟩⟩
theorem kL_166 : vLink RL 166 mX6_roads 2 := ⟨gT_at 1199 (by decide +kernel) (by decide +kernel), wX6_roads⟩
set_option maxHeartbeats 4000000 in
theorem cs_roads {xs : Int → Int} {N : Nat} {G : Nat → PS → Prop} (hR : Rl lkL ((98, N, xs) :: roC) bL_law 100 G) (hx : N ≤ 2048 ∧ ∀ j, -2147483648 ≤ xs j ∧ xs j ≤ 2147483647) {τ κ ρ : St} {out : Int → Int} (hJ : Jv τ κ) {k : Nat} (hk : k < 600) {i : Int} (hi : 0 ≤ i ∧ i + 4 ≤ N) (kont : ∀ (τ κ ρ : St) (out : Int → Int) (j : Nat), j ≤ k + 1 → Jv τ κ → G j (2248, Lh_ i, [], LW τ κ τ ρ out)) : G k (900, Lh_ i, [], LW τ κ τ ρ out) := by
  have hN := hx.1
  have hxr := hx.2
  have hr1 := hxr (i + 1)
  have hr2 := hxr (i + 2)
  have hro : ∀ q ∈ roC, q ∈ ((98, N, xs) :: roC : PRO) := fun q hq => List.mem_cons_of_mem _ hq
  have hw := wL_roads τ κ τ ρ out hro hr1 hr2 hJ.2.2.1 hJ.2.2.2.1 hJ.1
  have hm := fun (σ κ2 : St) (out2 : Int → Int) => frM (σ := σ) (κ := κ2) (out := out2) hro (pX6_roads τ ρ hr1 hr2 hJ.1 hJ.2.1)
  have hcd := cd_xRoads τ (xs (i + 1)) (xs (i + 2))
  have hth : (rRoads τ ρ (xs (i + 1)) (xs (i + 2))).1 0 = (xRoads τ (xs (i + 1)) (xs (i + 2))).1 := r1_rRoads τ ρ (xs (i + 1)) (xs (i + 2))
  have hJ2 := J_roads hJ (xs (i + 1)) (xs (i + 2))
  generalize (rRoads τ ρ (xs (i + 1)) (xs (i + 2))) = ρ2 at hm hth
  generalize xRoads τ (xs (i + 1)) (xs (i + 2)) = x at hw hm hcd hth hJ2
  generalize (kRoads κ τ (xs (i + 1)) (xs (i + 2))) = κ2 at hw hJ2
  refine hR.run1 (by omega) 12 (S' := (914, [some (vR 98), some (vR 0), some (vR 100), some (vR 120), some (vI i), none, none], [vR 120, vI (xs (i + 2)), vI (xs (i + 1)), vR 0], LW τ κ τ ρ out)) rfl (by omega) ?_
  refine hR.cw hk [vR 0, vI (xs (i + 1)), vI (xs (i + 2)), vR 120] kS_164 rfl rfl (by decide) (Nat.le_of_ble_eq_true rfl) (by decide) rfl hw ?_
  refine hR.run1 (by omega) 12 (S' := (932, [some (vR 98), some (vR 0), some (vR 100), some (vR 120), some (vI i), some (vI x.1), none], [vI (xs (i + 2)), vI (xs (i + 1)), vR 100], LW x.2.2 κ2 τ ρ (oP x out))) rfl (by omega) ?_
  refine hR.cv (by omega) [vI (xs (i + 1)), vI (xs (i + 2))] kL_166 rfl rfl ⟨_, _, _, rfl, rfl, rfl⟩ (by decide) (Nat.le_of_ble_eq_true rfl) (by decide) rfl (hm _ _ _) ?_
  show G (k + 1) (935, [some (vR 98), some (vR 0), some (vR 100), some (vR 120), some (vI i), some (vI x.1), none], [vI x.2.1], LW x.2.2 κ2 x.2.2 ρ2 (oP x out))
  refine hR.2.2.2.2.2.1 _ _ _ _ _ _ ?_
  refine hR.run0 (by omega) 2 (S' := (938, [some (vR 98), some (vR 0), some (vR 100), some (vR 120), some (vI i), some (vI x.1), some (vI (nmI x.2.1))], [vR 100], LW x.2.2 κ2 x.2.2 ρ2 (oP x out))) rfl ?_
  refine hR.cv (by omega) [] kL_127 rfl rfl ⟨_, _, _, rfl, rfl, rfl⟩ (by decide) (Nat.le_of_ble_eq_true rfl) (by decide) rfl (frM hro (sr_thrown _ _)) ?_
  show G (k + 1) (941, [some (vR 98), some (vR 0), some (vR 100), some (vR 120), some (vI i), some (vI x.1), some (vI (nmI x.2.1))], [vI (ρ2.1 0)], LW x.2.2 κ2 x.2.2 ρ2 (oP x out))
  rw [hth]
  refine hR.run0 (by omega) 1 (S' := (943, [some (vR 98), some (vR 0), some (vR 100), some (vR 120), some (vI i), some (vI x.1), some (vI (nmI x.2.1))], [vI x.1, vI x.1], LW x.2.2 κ2 x.2.2 ρ2 (oP x out))) rfl ?_
  refine hR.br (by omega) (C := x.1 = x.1) rfl (by omega) (fun _ => ?_) (fun h => absurd rfl h)
  refine hR.run0 (by omega) 1 (S' := (950, [some (vR 98), some (vR 0), some (vR 100), some (vR 120), some (vI i), some (vI x.1), some (vI (nmI x.2.1))], [vI x.1], LW x.2.2 κ2 x.2.2 ρ2 (oP x out))) rfl ?_
  refine hR.br (by omega) (C := x.1 ≠ 0) rfl (by omega) (fun _ => ?_) (fun h => ?_)
  · skip
    refine hR.run0 (by omega) 1 (S' := (2248, [some (vR 98), some (vR 0), some (vR 100), some (vR 120), some (vI i), some (vI x.1), some (vI (nmI x.2.1))], [], LW x.2.2 κ2 x.2.2 ρ2 (oP x out))) rfl ?_
    refine hR.2.2.2.2.2.2 _ 5 _ _ _ _ ?_
    refine hR.2.2.2.2.2.2 _ 6 _ _ _ _ ?_
    exact kont _ _ _ _ _ (Nat.le_refl _) hJ2
  · have h0 : x.1 = 0 := by omega
    have ho := oP_0 (out := out) h0
    have hnr := nmI_r x.2.1
    refine hR.run1 (by omega) 6 (S' := (960, [some (vR 98), some (vR 0), some (vR 100), some (vR 120), some (vI i), some (vI x.1), some (vI (nmI x.2.1))], [vI (if nmI x.2.1 < (oP x out) 0 then 1 else if (oP x out) 0 = nmI x.2.1 then 0 else -1)], LW x.2.2 κ2 x.2.2 ρ2 (oP x out))) rfl (by rw [ho]; omega) ?_
    refine hR.br (by omega) (C := (if nmI x.2.1 < (oP x out) 0 then (1 : Int) else if (oP x out) 0 = nmI x.2.1 then 0 else -1) = 0) rfl (by (repeat' split) <;> omega) (fun _ => ?_) (fun h => absurd (lc0.mpr ho) h)
    refine hR.run0 (by omega) 1 (S' := (2248, [some (vR 98), some (vR 0), some (vR 100), some (vR 120), some (vI i), some (vI x.1), some (vI (nmI x.2.1))], [], LW x.2.2 κ2 x.2.2 ρ2 (oP x out))) rfl ?_
    refine hR.2.2.2.2.2.2 _ 5 _ _ _ _ ?_
    refine hR.2.2.2.2.2.2 _ 6 _ _ _ _ ?_
    exact kont _ _ _ _ _ (Nat.le_refl _) hJ2
theorem kS_167 : sLinkW RL 167 mL_plenty hhL_plenty 4 := ⟨gT_at 655 (by decide +kernel) (by decide +kernel), gT_at 656 (by decide +kernel) (by decide +kernel), gT_at 0 (by decide +kernel) (by decide +kernel), gT_at 657 (by decide +kernel) (by decide +kernel), ⟨by decide +kernel, by decide +kernel, by decide +kernel⟩⟩
theorem kL_169 : vLink RL 169 mX6_plenty 2 := ⟨gT_at 1203 (by decide +kernel) (by decide +kernel), wX6_plenty⟩
set_option maxHeartbeats 4000000 in
theorem cs_plenty {xs : Int → Int} {N : Nat} {G : Nat → PS → Prop} (hR : Rl lkL ((98, N, xs) :: roC) bL_law 100 G) (hx : N ≤ 2048 ∧ ∀ j, -2147483648 ≤ xs j ∧ xs j ≤ 2147483647) {τ κ ρ : St} {out : Int → Int} (hJ : Jv τ κ) {k : Nat} (hk : k < 600) {i : Int} (hi : 0 ≤ i ∧ i + 4 ≤ N) (kont : ∀ (τ κ ρ : St) (out : Int → Int) (j : Nat), j ≤ k + 1 → Jv τ κ → G j (2248, Lh_ i, [], LW τ κ τ ρ out)) : G k (968, Lh_ i, [], LW τ κ τ ρ out) := by
  have hN := hx.1
  have hxr := hx.2
  have hr1 := hxr (i + 1)
  have hr2 := hxr (i + 2)
  have hro : ∀ q ∈ roC, q ∈ ((98, N, xs) :: roC : PRO) := fun q hq => List.mem_cons_of_mem _ hq
  have hw := wL_plenty τ κ τ ρ out hro hr1 hr2 hJ.1
  have hm := fun (σ κ2 : St) (out2 : Int → Int) => frM (σ := σ) (κ := κ2) (out := out2) hro (pX6_plenty τ ρ hr1 hr2 hJ.1)
  have hcd := cd_xPlenty τ (xs (i + 1)) (xs (i + 2))
  have hth : (sS ρ 0 (xPlenty τ (xs (i + 1)) (xs (i + 2))).1).1 0 = (xPlenty τ (xs (i + 1)) (xs (i + 2))).1 := rfl
  have hJ2 := J_plenty hJ (xs (i + 1)) (xs (i + 2))
  generalize (sS ρ 0 (xPlenty τ (xs (i + 1)) (xs (i + 2))).1) = ρ2 at hm hth
  generalize xPlenty τ (xs (i + 1)) (xs (i + 2)) = x at hw hm hcd hth hJ2
  generalize (kPlenty κ τ (xs (i + 1)) (xs (i + 2))) = κ2 at hw hJ2
  refine hR.run1 (by omega) 12 (S' := (982, [some (vR 98), some (vR 0), some (vR 100), some (vR 120), some (vI i), none, none], [vR 120, vI (xs (i + 2)), vI (xs (i + 1)), vR 0], LW τ κ τ ρ out)) rfl (by omega) ?_
  refine hR.cw hk [vR 0, vI (xs (i + 1)), vI (xs (i + 2)), vR 120] kS_167 rfl rfl (by decide) (Nat.le_of_ble_eq_true rfl) (by decide) rfl hw ?_
  refine hR.run1 (by omega) 12 (S' := (1000, [some (vR 98), some (vR 0), some (vR 100), some (vR 120), some (vI i), some (vI x.1), none], [vI (xs (i + 2)), vI (xs (i + 1)), vR 100], LW x.2.2 κ2 τ ρ (oP x out))) rfl (by omega) ?_
  refine hR.cv (by omega) [vI (xs (i + 1)), vI (xs (i + 2))] kL_169 rfl rfl ⟨_, _, _, rfl, rfl, rfl⟩ (by decide) (Nat.le_of_ble_eq_true rfl) (by decide) rfl (hm _ _ _) ?_
  show G (k + 1) (1003, [some (vR 98), some (vR 0), some (vR 100), some (vR 120), some (vI i), some (vI x.1), none], [vI x.2.1], LW x.2.2 κ2 x.2.2 ρ2 (oP x out))
  refine hR.2.2.2.2.2.1 _ _ _ _ _ _ ?_
  refine hR.run0 (by omega) 2 (S' := (1006, [some (vR 98), some (vR 0), some (vR 100), some (vR 120), some (vI i), some (vI x.1), some (vI (nmI x.2.1))], [vR 100], LW x.2.2 κ2 x.2.2 ρ2 (oP x out))) rfl ?_
  refine hR.cv (by omega) [] kL_127 rfl rfl ⟨_, _, _, rfl, rfl, rfl⟩ (by decide) (Nat.le_of_ble_eq_true rfl) (by decide) rfl (frM hro (sr_thrown _ _)) ?_
  show G (k + 1) (1009, [some (vR 98), some (vR 0), some (vR 100), some (vR 120), some (vI i), some (vI x.1), some (vI (nmI x.2.1))], [vI (ρ2.1 0)], LW x.2.2 κ2 x.2.2 ρ2 (oP x out))
  rw [hth]
  refine hR.run0 (by omega) 1 (S' := (1011, [some (vR 98), some (vR 0), some (vR 100), some (vR 120), some (vI i), some (vI x.1), some (vI (nmI x.2.1))], [vI x.1, vI x.1], LW x.2.2 κ2 x.2.2 ρ2 (oP x out))) rfl ?_
  refine hR.br (by omega) (C := x.1 = x.1) rfl (by omega) (fun _ => ?_) (fun h => absurd rfl h)
  refine hR.run0 (by omega) 1 (S' := (1018, [some (vR 98), some (vR 0), some (vR 100), some (vR 120), some (vI i), some (vI x.1), some (vI (nmI x.2.1))], [vI x.1], LW x.2.2 κ2 x.2.2 ρ2 (oP x out))) rfl ?_
  refine hR.br (by omega) (C := x.1 ≠ 0) rfl (by omega) (fun _ => ?_) (fun h => ?_)
  · skip
    refine hR.run0 (by omega) 1 (S' := (2248, [some (vR 98), some (vR 0), some (vR 100), some (vR 120), some (vI i), some (vI x.1), some (vI (nmI x.2.1))], [], LW x.2.2 κ2 x.2.2 ρ2 (oP x out))) rfl ?_
    refine hR.2.2.2.2.2.2 _ 5 _ _ _ _ ?_
    refine hR.2.2.2.2.2.2 _ 6 _ _ _ _ ?_
    exact kont _ _ _ _ _ (Nat.le_refl _) hJ2
  · have h0 : x.1 = 0 := by omega
    have ho := oP_0 (out := out) h0
    have hnr := nmI_r x.2.1
    refine hR.run1 (by omega) 6 (S' := (1028, [some (vR 98), some (vR 0), some (vR 100), some (vR 120), some (vI i), some (vI x.1), some (vI (nmI x.2.1))], [vI (if nmI x.2.1 < (oP x out) 0 then 1 else if (oP x out) 0 = nmI x.2.1 then 0 else -1)], LW x.2.2 κ2 x.2.2 ρ2 (oP x out))) rfl (by rw [ho]; omega) ?_
    refine hR.br (by omega) (C := (if nmI x.2.1 < (oP x out) 0 then (1 : Int) else if (oP x out) 0 = nmI x.2.1 then 0 else -1) = 0) rfl (by (repeat' split) <;> omega) (fun _ => ?_) (fun h => absurd (lc0.mpr ho) h)
    refine hR.run0 (by omega) 1 (S' := (2248, [some (vR 98), some (vR 0), some (vR 100), some (vR 120), some (vI i), some (vI x.1), some (vI (nmI x.2.1))], [], LW x.2.2 κ2 x.2.2 ρ2 (oP x out))) rfl ?_
    refine hR.2.2.2.2.2.2 _ 5 _ _ _ _ ?_
    refine hR.2.2.2.2.2.2 _ 6 _ _ _ _ ?_
    exact kont _ _ _ _ _ (Nat.le_refl _) hJ2
theorem kS_170 : sLinkW RL 170 mL_monopoly hhL_monopoly 3 := ⟨gT_at 669 (by decide +kernel) (by decide +kernel), gT_at 670 (by decide +kernel) (by decide +kernel), gT_at 0 (by decide +kernel) (by decide +kernel), gT_at 671 (by decide +kernel) (by decide +kernel), ⟨by decide +kernel, by decide +kernel, by decide +kernel⟩⟩
theorem kL_172 : vLink RL 172 mX6_monopoly 1 := ⟨gT_at 1214 (by decide +kernel) (by decide +kernel), wX6_monopoly⟩
set_option maxHeartbeats 4000000 in
theorem cs_monopoly {xs : Int → Int} {N : Nat} {G : Nat → PS → Prop} (hR : Rl lkL ((98, N, xs) :: roC) bL_law 100 G) (hx : N ≤ 2048 ∧ ∀ j, -2147483648 ≤ xs j ∧ xs j ≤ 2147483647) {τ κ ρ : St} {out : Int → Int} (hJ : Jv τ κ) {k : Nat} (hk : k < 600) {i : Int} (hi : 0 ≤ i ∧ i + 4 ≤ N) (kont : ∀ (τ κ ρ : St) (out : Int → Int) (j : Nat), j ≤ k + 1 → Jv τ κ → G j (2248, Lh_ i, [], LW τ κ τ ρ out)) : G k (1036, Lh_ i, [], LW τ κ τ ρ out) := by
  have hN := hx.1
  have hxr := hx.2
  have hr1 := hxr (i + 1)
  have hro : ∀ q ∈ roC, q ∈ ((98, N, xs) :: roC : PRO) := fun q hq => List.mem_cons_of_mem _ hq
  have hw := wL_monopoly τ κ τ ρ out hro hr1 hJ.1
  have hm := fun (σ κ2 : St) (out2 : Int → Int) => frM (σ := σ) (κ := κ2) (out := out2) hro (pX6_monopoly τ ρ hr1 hJ.1)
  have hcd := cd_xMono τ (xs (i + 1))
  have hth : (sS ρ 0 (xMono τ (xs (i + 1))).1).1 0 = (xMono τ (xs (i + 1))).1 := rfl
  have hJ2 := J_monopoly hJ (xs (i + 1))
  generalize (sS ρ 0 (xMono τ (xs (i + 1))).1) = ρ2 at hm hth
  generalize xMono τ (xs (i + 1)) = x at hw hm hcd hth hJ2
  generalize (kMono κ τ (xs (i + 1))) = κ2 at hw hJ2
  refine hR.run1 (by omega) 7 (S' := (1044, [some (vR 98), some (vR 0), some (vR 100), some (vR 120), some (vI i), none, none], [vR 120, vI (xs (i + 1)), vR 0], LW τ κ τ ρ out)) rfl (by omega) ?_
  refine hR.cw hk [vR 0, vI (xs (i + 1)), vR 120] kS_170 rfl rfl (by decide) (Nat.le_of_ble_eq_true rfl) (by decide) rfl hw ?_
  refine hR.run1 (by omega) 7 (S' := (1056, [some (vR 98), some (vR 0), some (vR 100), some (vR 120), some (vI i), some (vI x.1), none], [vI (xs (i + 1)), vR 100], LW x.2.2 κ2 τ ρ (oP x out))) rfl (by omega) ?_
  refine hR.cv (by omega) [vI (xs (i + 1))] kL_172 rfl rfl ⟨_, _, _, rfl, rfl, rfl⟩ (by decide) (Nat.le_of_ble_eq_true rfl) (by decide) rfl (hm _ _ _) ?_
  show G (k + 1) (1059, [some (vR 98), some (vR 0), some (vR 100), some (vR 120), some (vI i), some (vI x.1), none], [vI x.2.1], LW x.2.2 κ2 x.2.2 ρ2 (oP x out))
  refine hR.2.2.2.2.2.1 _ _ _ _ _ _ ?_
  refine hR.run0 (by omega) 2 (S' := (1062, [some (vR 98), some (vR 0), some (vR 100), some (vR 120), some (vI i), some (vI x.1), some (vI (nmI x.2.1))], [vR 100], LW x.2.2 κ2 x.2.2 ρ2 (oP x out))) rfl ?_
  refine hR.cv (by omega) [] kL_127 rfl rfl ⟨_, _, _, rfl, rfl, rfl⟩ (by decide) (Nat.le_of_ble_eq_true rfl) (by decide) rfl (frM hro (sr_thrown _ _)) ?_
  show G (k + 1) (1065, [some (vR 98), some (vR 0), some (vR 100), some (vR 120), some (vI i), some (vI x.1), some (vI (nmI x.2.1))], [vI (ρ2.1 0)], LW x.2.2 κ2 x.2.2 ρ2 (oP x out))
  rw [hth]
  refine hR.run0 (by omega) 1 (S' := (1067, [some (vR 98), some (vR 0), some (vR 100), some (vR 120), some (vI i), some (vI x.1), some (vI (nmI x.2.1))], [vI x.1, vI x.1], LW x.2.2 κ2 x.2.2 ρ2 (oP x out))) rfl ?_
  refine hR.br (by omega) (C := x.1 = x.1) rfl (by omega) (fun _ => ?_) (fun h => absurd rfl h)
  refine hR.run0 (by omega) 1 (S' := (1074, [some (vR 98), some (vR 0), some (vR 100), some (vR 120), some (vI i), some (vI x.1), some (vI (nmI x.2.1))], [vI x.1], LW x.2.2 κ2 x.2.2 ρ2 (oP x out))) rfl ?_
  refine hR.br (by omega) (C := x.1 ≠ 0) rfl (by omega) (fun _ => ?_) (fun h => ?_)
  · skip
    refine hR.run0 (by omega) 1 (S' := (2248, [some (vR 98), some (vR 0), some (vR 100), some (vR 120), some (vI i), some (vI x.1), some (vI (nmI x.2.1))], [], LW x.2.2 κ2 x.2.2 ρ2 (oP x out))) rfl ?_
    refine hR.2.2.2.2.2.2 _ 5 _ _ _ _ ?_
    refine hR.2.2.2.2.2.2 _ 6 _ _ _ _ ?_
    exact kont _ _ _ _ _ (Nat.le_refl _) hJ2
  · have h0 : x.1 = 0 := by omega
    have ho := oP_0 (out := out) h0
    have hnr := nmI_r x.2.1
    refine hR.run1 (by omega) 6 (S' := (1084, [some (vR 98), some (vR 0), some (vR 100), some (vR 120), some (vI i), some (vI x.1), some (vI (nmI x.2.1))], [vI (if nmI x.2.1 < (oP x out) 0 then 1 else if (oP x out) 0 = nmI x.2.1 then 0 else -1)], LW x.2.2 κ2 x.2.2 ρ2 (oP x out))) rfl (by rw [ho]; omega) ?_
    refine hR.br (by omega) (C := (if nmI x.2.1 < (oP x out) 0 then (1 : Int) else if (oP x out) 0 = nmI x.2.1 then 0 else -1) = 0) rfl (by (repeat' split) <;> omega) (fun _ => ?_) (fun h => absurd (lc0.mpr ho) h)
    refine hR.run0 (by omega) 1 (S' := (2248, [some (vR 98), some (vR 0), some (vR 100), some (vR 120), some (vI i), some (vI x.1), some (vI (nmI x.2.1))], [], LW x.2.2 κ2 x.2.2 ρ2 (oP x out))) rfl ?_
    refine hR.2.2.2.2.2.2 _ 5 _ _ _ _ ?_
    refine hR.2.2.2.2.2.2 _ 6 _ _ _ _ ?_
    exact kont _ _ _ _ _ (Nat.le_refl _) hJ2
theorem kS_173 : sLinkW RL 173 mL_swap hhL_swap 4 := ⟨gT_at 676 (by decide +kernel) (by decide +kernel), gT_at 677 (by decide +kernel) (by decide +kernel), gT_at 0 (by decide +kernel) (by decide +kernel), gT_at 678 (by decide +kernel) (by decide +kernel), ⟨by decide +kernel, by decide +kernel, by decide +kernel⟩⟩
theorem kL_175 : vLink RL 175 mX6_swap 2 := ⟨gT_at 1218 (by decide +kernel) (by decide +kernel), wX6_swap⟩
set_option maxHeartbeats 4000000 in
theorem cs_swap {xs : Int → Int} {N : Nat} {G : Nat → PS → Prop} (hR : Rl lkL ((98, N, xs) :: roC) bL_law 100 G) (hx : N ≤ 2048 ∧ ∀ j, -2147483648 ≤ xs j ∧ xs j ≤ 2147483647) {τ κ ρ : St} {out : Int → Int} (hJ : Jv τ κ) {k : Nat} (hk : k < 600) {i : Int} (hi : 0 ≤ i ∧ i + 4 ≤ N) (kont : ∀ (τ κ ρ : St) (out : Int → Int) (j : Nat), j ≤ k + 1 → Jv τ κ → G j (2248, Lh_ i, [], LW τ κ τ ρ out)) : G k (1092, Lh_ i, [], LW τ κ τ ρ out) := by
  have hN := hx.1
  have hxr := hx.2
  have hr1 := hxr (i + 1)
  have hr2 := hxr (i + 2)
  have hro : ∀ q ∈ roC, q ∈ ((98, N, xs) :: roC : PRO) := fun q hq => List.mem_cons_of_mem _ hq
  have hw := wL_swap τ κ τ ρ out hro hr1 hr2 hJ.1
  have hm := fun (σ κ2 : St) (out2 : Int → Int) => frM (σ := σ) (κ := κ2) (out := out2) hro (pX6_swap τ ρ hr1 hr2 hJ.1)
  have hcd := cd_xSwap τ (xs (i + 1)) (xs (i + 2))
  have hth : (sS ρ 0 (xSwap τ (xs (i + 1)) (xs (i + 2))).1).1 0 = (xSwap τ (xs (i + 1)) (xs (i + 2))).1 := rfl
  have hJ2 := J_swap hJ (xs (i + 1)) (xs (i + 2))
  generalize (sS ρ 0 (xSwap τ (xs (i + 1)) (xs (i + 2))).1) = ρ2 at hm hth
  generalize xSwap τ (xs (i + 1)) (xs (i + 2)) = x at hw hm hcd hth hJ2
  generalize (kSwap κ τ (xs (i + 1)) (xs (i + 2))) = κ2 at hw hJ2
  refine hR.run1 (by omega) 12 (S' := (1106, [some (vR 98), some (vR 0), some (vR 100), some (vR 120), some (vI i), none, none], [vR 120, vI (xs (i + 2)), vI (xs (i + 1)), vR 0], LW τ κ τ ρ out)) rfl (by omega) ?_
  refine hR.cw hk [vR 0, vI (xs (i + 1)), vI (xs (i + 2)), vR 120] kS_173 rfl rfl (by decide) (Nat.le_of_ble_eq_true rfl) (by decide) rfl hw ?_
  refine hR.run1 (by omega) 12 (S' := (1124, [some (vR 98), some (vR 0), some (vR 100), some (vR 120), some (vI i), some (vI x.1), none], [vI (xs (i + 2)), vI (xs (i + 1)), vR 100], LW x.2.2 κ2 τ ρ (oP x out))) rfl (by omega) ?_
  refine hR.cv (by omega) [vI (xs (i + 1)), vI (xs (i + 2))] kL_175 rfl rfl ⟨_, _, _, rfl, rfl, rfl⟩ (by decide) (Nat.le_of_ble_eq_true rfl) (by decide) rfl (hm _ _ _) ?_
  show G (k + 1) (1127, [some (vR 98), some (vR 0), some (vR 100), some (vR 120), some (vI i), some (vI x.1), none], [vI x.2.1], LW x.2.2 κ2 x.2.2 ρ2 (oP x out))
  refine hR.2.2.2.2.2.1 _ _ _ _ _ _ ?_
  refine hR.run0 (by omega) 2 (S' := (1130, [some (vR 98), some (vR 0), some (vR 100), some (vR 120), some (vI i), some (vI x.1), some (vI (nmI x.2.1))], [vR 100], LW x.2.2 κ2 x.2.2 ρ2 (oP x out))) rfl ?_
  refine hR.cv (by omega) [] kL_127 rfl rfl ⟨_, _, _, rfl, rfl, rfl⟩ (by decide) (Nat.le_of_ble_eq_true rfl) (by decide) rfl (frM hro (sr_thrown _ _)) ?_
  show G (k + 1) (1133, [some (vR 98), some (vR 0), some (vR 100), some (vR 120), some (vI i), some (vI x.1), some (vI (nmI x.2.1))], [vI (ρ2.1 0)], LW x.2.2 κ2 x.2.2 ρ2 (oP x out))
  rw [hth]
  refine hR.run0 (by omega) 1 (S' := (1135, [some (vR 98), some (vR 0), some (vR 100), some (vR 120), some (vI i), some (vI x.1), some (vI (nmI x.2.1))], [vI x.1, vI x.1], LW x.2.2 κ2 x.2.2 ρ2 (oP x out))) rfl ?_
  refine hR.br (by omega) (C := x.1 = x.1) rfl (by omega) (fun _ => ?_) (fun h => absurd rfl h)
  refine hR.run0 (by omega) 1 (S' := (1142, [some (vR 98), some (vR 0), some (vR 100), some (vR 120), some (vI i), some (vI x.1), some (vI (nmI x.2.1))], [vI x.1], LW x.2.2 κ2 x.2.2 ρ2 (oP x out))) rfl ?_
  refine hR.br (by omega) (C := x.1 ≠ 0) rfl (by omega) (fun _ => ?_) (fun h => ?_)
  · skip
    refine hR.run0 (by omega) 1 (S' := (2248, [some (vR 98), some (vR 0), some (vR 100), some (vR 120), some (vI i), some (vI x.1), some (vI (nmI x.2.1))], [], LW x.2.2 κ2 x.2.2 ρ2 (oP x out))) rfl ?_
    refine hR.2.2.2.2.2.2 _ 5 _ _ _ _ ?_
    refine hR.2.2.2.2.2.2 _ 6 _ _ _ _ ?_
    exact kont _ _ _ _ _ (Nat.le_refl _) hJ2
  · have h0 : x.1 = 0 := by omega
    have ho := oP_0 (out := out) h0
    have hnr := nmI_r x.2.1
    refine hR.run1 (by omega) 6 (S' := (1152, [some (vR 98), some (vR 0), some (vR 100), some (vR 120), some (vI i), some (vI x.1), some (vI (nmI x.2.1))], [vI (if nmI x.2.1 < (oP x out) 0 then 1 else if (oP x out) 0 = nmI x.2.1 then 0 else -1)], LW x.2.2 κ2 x.2.2 ρ2 (oP x out))) rfl (by rw [ho]; omega) ?_
    refine hR.br (by omega) (C := (if nmI x.2.1 < (oP x out) 0 then (1 : Int) else if (oP x out) 0 = nmI x.2.1 then 0 else -1) = 0) rfl (by (repeat' split) <;> omega) (fun _ => ?_) (fun h => absurd (lc0.mpr ho) h)
    refine hR.run0 (by omega) 1 (S' := (2248, [some (vR 98), some (vR 0), some (vR 100), some (vR 120), some (vI i), some (vI x.1), some (vI (nmI x.2.1))], [], LW x.2.2 κ2 x.2.2 ρ2 (oP x out))) rfl ?_
    refine hR.2.2.2.2.2.2 _ 5 _ _ _ _ ?_
    refine hR.2.2.2.2.2.2 _ 6 _ _ _ _ ?_
    exact kont _ _ _ _ _ (Nat.le_refl _) hJ2
theorem kS_176 : sLinkW RL 176 mL_offer hhL_offer 3 := ⟨gT_at 695 (by decide +kernel) (by decide +kernel), gT_at 696 (by decide +kernel) (by decide +kernel), gT_at 0 (by decide +kernel) (by decide +kernel), gT_at 697 (by decide +kernel) (by decide +kernel), ⟨by decide +kernel, by decide +kernel, by decide +kernel⟩⟩
theorem kL_179 : vLink RL 179 mX6_offer 2 := ⟨gT_at 1226 (by decide +kernel) (by decide +kernel), wX6_offer⟩
set_option maxHeartbeats 4000000 in
theorem cs_offer {xs : Int → Int} {N : Nat} {G : Nat → PS → Prop} (hR : Rl lkL ((98, N, xs) :: roC) bL_law 100 G) (hx : N ≤ 2048 ∧ ∀ j, -2147483648 ≤ xs j ∧ xs j ≤ 2147483647) {τ κ ρ : St} {out : Int → Int} (hJ : Jv τ κ) {k : Nat} (hk : k < 600) {i : Int} (hi : 0 ≤ i ∧ i + 4 ≤ N) (kont : ∀ (τ κ ρ : St) (out : Int → Int) (j : Nat), j ≤ k + 1 → Jv τ κ → G j (2248, Lh_ i, [], LW τ κ τ ρ out)) : G k (1160, Lh_ i, [], LW τ κ τ ρ out) := by
  have hN := hx.1
  have hxr := hx.2
  have hr1 := hxr (i + 1)
  have hr2 := hxr (i + 2)
  have hro : ∀ q ∈ roC, q ∈ ((98, N, xs) :: roC : PRO) := fun q hq => List.mem_cons_of_mem _ hq
  have hw := wL_offer τ κ τ ρ out hro hr1 hr2 hJ.1
  have hm := fun (σ κ2 : St) (out2 : Int → Int) => frM (σ := σ) (κ := κ2) (out := out2) hro (pX6_offer τ ρ hr1 hr2 hJ.1)
  have hcd := cd_xOffer τ (xs (i + 1)) (xs (i + 2))
  have hth : (sS ρ 0 (xOffer τ (xs (i + 1)) (xs (i + 2))).1).1 0 = (xOffer τ (xs (i + 1)) (xs (i + 2))).1 := rfl
  have hJ2 := J_offer hJ (xs (i + 1)) (xs (i + 2))
  generalize (sS ρ 0 (xOffer τ (xs (i + 1)) (xs (i + 2))).1) = ρ2 at hm hth
  generalize xOffer τ (xs (i + 1)) (xs (i + 2)) = x at hw hm hcd hth hJ2
  refine hR.run1 (by omega) 11 (S' := (1173, [some (vR 98), some (vR 0), some (vR 100), some (vR 120), some (vI i), none, none], [vI (xs (i + 2)), vI (xs (i + 1)), vR 0], LW τ κ τ ρ out)) rfl (by omega) ?_
  refine hR.cw hk [vR 0, vI (xs (i + 1)), vI (xs (i + 2))] kS_176 rfl rfl (by decide) (Nat.le_of_ble_eq_true rfl) (by decide) rfl hw ?_
  refine hR.run1 (by omega) 12 (S' := (1191, [some (vR 98), some (vR 0), some (vR 100), some (vR 120), some (vI i), some (vI x.1), none], [vI (xs (i + 2)), vI (xs (i + 1)), vR 100], LW x.2.2 κ τ ρ out)) rfl (by omega) ?_
  refine hR.cv (by omega) [vI (xs (i + 1)), vI (xs (i + 2))] kL_179 rfl rfl ⟨_, _, _, rfl, rfl, rfl⟩ (by decide) (Nat.le_of_ble_eq_true rfl) (by decide) rfl (hm _ _ _) ?_
  refine hR.run0 (by omega) 1 (S' := (1195, [some (vR 98), some (vR 0), some (vR 100), some (vR 120), some (vI i), some (vI x.1), none], [vR 100], LW x.2.2 κ x.2.2 ρ2 out)) rfl ?_
  refine hR.cv (by omega) [] kL_127 rfl rfl ⟨_, _, _, rfl, rfl, rfl⟩ (by decide) (Nat.le_of_ble_eq_true rfl) (by decide) rfl (frM hro (sr_thrown _ _)) ?_
  show G (k + 1) (1198, [some (vR 98), some (vR 0), some (vR 100), some (vR 120), some (vI i), some (vI x.1), none], [vI (ρ2.1 0)], LW x.2.2 κ x.2.2 ρ2 out)
  rw [hth]
  refine hR.run0 (by omega) 1 (S' := (1200, [some (vR 98), some (vR 0), some (vR 100), some (vR 120), some (vI i), some (vI x.1), none], [vI x.1, vI x.1], LW x.2.2 κ x.2.2 ρ2 out)) rfl ?_
  refine hR.br (by omega) (C := x.1 = x.1) rfl (by omega) (fun _ => ?_) (fun h => absurd rfl h)
  refine hR.run0 (by omega) 1 (S' := (2248, [some (vR 98), some (vR 0), some (vR 100), some (vR 120), some (vI i), some (vI x.1), none], [], LW x.2.2 κ x.2.2 ρ2 out)) rfl ?_
  refine hR.2.2.2.2.2.2 _ 5 _ _ _ _ ?_
  exact kont _ _ _ _ _ (Nat.le_refl _) hJ2
theorem kS_180 : sLinkW RL 180 mL_counter hhL_counter 4 := ⟨gT_at 714 (by decide +kernel) (by decide +kernel), gT_at 715 (by decide +kernel) (by decide +kernel), gT_at 0 (by decide +kernel) (by decide +kernel), gT_at 716 (by decide +kernel) (by decide +kernel), ⟨by decide +kernel, by decide +kernel, by decide +kernel⟩⟩
theorem kL_182 : vLink RL 182 mX6_counter 3 := ⟨gT_at 1237 (by decide +kernel) (by decide +kernel), wX6_counter⟩
set_option maxHeartbeats 4000000 in
theorem cs_counter {xs : Int → Int} {N : Nat} {G : Nat → PS → Prop} (hR : Rl lkL ((98, N, xs) :: roC) bL_law 100 G) (hx : N ≤ 2048 ∧ ∀ j, -2147483648 ≤ xs j ∧ xs j ≤ 2147483647) {τ κ ρ : St} {out : Int → Int} (hJ : Jv τ κ) {k : Nat} (hk : k < 600) {i : Int} (hi : 0 ≤ i ∧ i + 4 ≤ N) (kont : ∀ (τ κ ρ : St) (out : Int → Int) (j : Nat), j ≤ k + 1 → Jv τ κ → G j (2248, Lh_ i, [], LW τ κ τ ρ out)) : G k (1208, Lh_ i, [], LW τ κ τ ρ out) := by
  have hN := hx.1
  have hxr := hx.2
  have hr1 := hxr (i + 1)
  have hr2 := hxr (i + 2)
  have hr3 := hxr (i + 3)
  have hro : ∀ q ∈ roC, q ∈ ((98, N, xs) :: roC : PRO) := fun q hq => List.mem_cons_of_mem _ hq
  have hw := wL_counter τ κ τ ρ out hro hr1 hr2 hr3 hJ.1
  have hm := fun (σ κ2 : St) (out2 : Int → Int) => frM (σ := σ) (κ := κ2) (out := out2) hro (pX6_counter τ ρ hr1 hr2 hr3 hJ.1)
  have hcd := cd_xCounter τ (xs (i + 1)) (xs (i + 2)) (xs (i + 3))
  have hth : (sS ρ 0 (xCounter τ (xs (i + 1)) (xs (i + 2)) (xs (i + 3))).1).1 0 = (xCounter τ (xs (i + 1)) (xs (i + 2)) (xs (i + 3))).1 := rfl
  have hJ2 := J_counter hJ (xs (i + 1)) (xs (i + 2)) (xs (i + 3))
  generalize (sS ρ 0 (xCounter τ (xs (i + 1)) (xs (i + 2)) (xs (i + 3))).1) = ρ2 at hm hth
  generalize xCounter τ (xs (i + 1)) (xs (i + 2)) (xs (i + 3)) = x at hw hm hcd hth hJ2
  refine hR.run1 (by omega) 16 (S' := (1227, [some (vR 98), some (vR 0), some (vR 100), some (vR 120), some (vI i), none, none], [vI (xs (i + 3)), vI (xs (i + 2)), vI (xs (i + 1)), vR 0], LW τ κ τ ρ out)) rfl (by omega) ?_
  refine hR.cw hk [vR 0, vI (xs (i + 1)), vI (xs (i + 2)), vI (xs (i + 3))] kS_180 rfl rfl (by decide) (Nat.le_of_ble_eq_true rfl) (by decide) rfl hw ?_
  refine hR.run1 (by omega) 17 (S' := (1251, [some (vR 98), some (vR 0), some (vR 100), some (vR 120), some (vI i), some (vI x.1), none], [vI (xs (i + 3)), vI (xs (i + 2)), vI (xs (i + 1)), vR 100], LW x.2.2 κ τ ρ out)) rfl (by omega) ?_
  refine hR.cv (by omega) [vI (xs (i + 1)), vI (xs (i + 2)), vI (xs (i + 3))] kL_182 rfl rfl ⟨_, _, _, rfl, rfl, rfl⟩ (by decide) (Nat.le_of_ble_eq_true rfl) (by decide) rfl (hm _ _ _) ?_
  refine hR.run0 (by omega) 1 (S' := (1255, [some (vR 98), some (vR 0), some (vR 100), some (vR 120), some (vI i), some (vI x.1), none], [vR 100], LW x.2.2 κ x.2.2 ρ2 out)) rfl ?_
  refine hR.cv (by omega) [] kL_127 rfl rfl ⟨_, _, _, rfl, rfl, rfl⟩ (by decide) (Nat.le_of_ble_eq_true rfl) (by decide) rfl (frM hro (sr_thrown _ _)) ?_
  show G (k + 1) (1258, [some (vR 98), some (vR 0), some (vR 100), some (vR 120), some (vI i), some (vI x.1), none], [vI (ρ2.1 0)], LW x.2.2 κ x.2.2 ρ2 out)
  rw [hth]
  refine hR.run0 (by omega) 1 (S' := (1260, [some (vR 98), some (vR 0), some (vR 100), some (vR 120), some (vI i), some (vI x.1), none], [vI x.1, vI x.1], LW x.2.2 κ x.2.2 ρ2 out)) rfl ?_
  refine hR.br (by omega) (C := x.1 = x.1) rfl (by omega) (fun _ => ?_) (fun h => absurd rfl h)
  refine hR.run0 (by omega) 1 (S' := (2248, [some (vR 98), some (vR 0), some (vR 100), some (vR 120), some (vI i), some (vI x.1), none], [], LW x.2.2 κ x.2.2 ρ2 out)) rfl ?_
  refine hR.2.2.2.2.2.2 _ 5 _ _ _ _ ?_
  exact kont _ _ _ _ _ (Nat.le_refl _) hJ2
theorem kS_183 : sLinkW RL 183 mL_accept hhL_accept 3 := ⟨gT_at 726 (by decide +kernel) (by decide +kernel), gT_at 727 (by decide +kernel) (by decide +kernel), gT_at 0 (by decide +kernel) (by decide +kernel), gT_at 728 (by decide +kernel) (by decide +kernel), ⟨by decide +kernel, by decide +kernel, by decide +kernel⟩⟩
theorem kL_185 : vLink RL 185 mX6_accept 1 := ⟨gT_at 1241 (by decide +kernel) (by decide +kernel), wX6_accept⟩
set_option maxHeartbeats 4000000 in
theorem cs_accept {xs : Int → Int} {N : Nat} {G : Nat → PS → Prop} (hR : Rl lkL ((98, N, xs) :: roC) bL_law 100 G) (hx : N ≤ 2048 ∧ ∀ j, -2147483648 ≤ xs j ∧ xs j ≤ 2147483647) {τ κ ρ : St} {out : Int → Int} (hJ : Jv τ κ) {k : Nat} (hk : k < 600) {i : Int} (hi : 0 ≤ i ∧ i + 4 ≤ N) (kont : ∀ (τ κ ρ : St) (out : Int → Int) (j : Nat), j ≤ k + 1 → Jv τ κ → G j (2248, Lh_ i, [], LW τ κ τ ρ out)) : G k (1268, Lh_ i, [], LW τ κ τ ρ out) := by
  have hN := hx.1
  have hxr := hx.2
  have hr1 := hxr (i + 1)
  have hro : ∀ q ∈ roC, q ∈ ((98, N, xs) :: roC : PRO) := fun q hq => List.mem_cons_of_mem _ hq
  have hw := wL_accept τ κ τ ρ out hro hr1 hJ.1
  have hm := fun (σ κ2 : St) (out2 : Int → Int) => frM (σ := σ) (κ := κ2) (out := out2) hro (pX6_accept τ ρ hr1 hJ.1)
  have hcd := cd_xAccept τ (xs (i + 1))
  have hth : (sS ρ 0 (xAccept τ (xs (i + 1))).1).1 0 = (xAccept τ (xs (i + 1))).1 := rfl
  have hJ2 := J_accept hJ (xs (i + 1))
  generalize (sS ρ 0 (xAccept τ (xs (i + 1))).1) = ρ2 at hm hth
  generalize xAccept τ (xs (i + 1)) = x at hw hm hcd hth hJ2
  generalize (kAccept κ τ (xs (i + 1))) = κ2 at hw hJ2
  refine hR.run1 (by omega) 7 (S' := (1276, [some (vR 98), some (vR 0), some (vR 100), some (vR 120), some (vI i), none, none], [vR 120, vI (xs (i + 1)), vR 0], LW τ κ τ ρ out)) rfl (by omega) ?_
  refine hR.cw hk [vR 0, vI (xs (i + 1)), vR 120] kS_183 rfl rfl (by decide) (Nat.le_of_ble_eq_true rfl) (by decide) rfl hw ?_
  refine hR.run1 (by omega) 7 (S' := (1288, [some (vR 98), some (vR 0), some (vR 100), some (vR 120), some (vI i), some (vI x.1), none], [vI (xs (i + 1)), vR 100], LW x.2.2 κ2 τ ρ (oP x out))) rfl (by omega) ?_
  refine hR.cv (by omega) [vI (xs (i + 1))] kL_185 rfl rfl ⟨_, _, _, rfl, rfl, rfl⟩ (by decide) (Nat.le_of_ble_eq_true rfl) (by decide) rfl (hm _ _ _) ?_
  show G (k + 1) (1291, [some (vR 98), some (vR 0), some (vR 100), some (vR 120), some (vI i), some (vI x.1), none], [vI x.2.1], LW x.2.2 κ2 x.2.2 ρ2 (oP x out))
  refine hR.2.2.2.2.2.1 _ _ _ _ _ _ ?_
  refine hR.run0 (by omega) 2 (S' := (1294, [some (vR 98), some (vR 0), some (vR 100), some (vR 120), some (vI i), some (vI x.1), some (vI (nmI x.2.1))], [vR 100], LW x.2.2 κ2 x.2.2 ρ2 (oP x out))) rfl ?_
  refine hR.cv (by omega) [] kL_127 rfl rfl ⟨_, _, _, rfl, rfl, rfl⟩ (by decide) (Nat.le_of_ble_eq_true rfl) (by decide) rfl (frM hro (sr_thrown _ _)) ?_
  show G (k + 1) (1297, [some (vR 98), some (vR 0), some (vR 100), some (vR 120), some (vI i), some (vI x.1), some (vI (nmI x.2.1))], [vI (ρ2.1 0)], LW x.2.2 κ2 x.2.2 ρ2 (oP x out))
  rw [hth]
  refine hR.run0 (by omega) 1 (S' := (1299, [some (vR 98), some (vR 0), some (vR 100), some (vR 120), some (vI i), some (vI x.1), some (vI (nmI x.2.1))], [vI x.1, vI x.1], LW x.2.2 κ2 x.2.2 ρ2 (oP x out))) rfl ?_
  refine hR.br (by omega) (C := x.1 = x.1) rfl (by omega) (fun _ => ?_) (fun h => absurd rfl h)
  refine hR.run0 (by omega) 1 (S' := (1306, [some (vR 98), some (vR 0), some (vR 100), some (vR 120), some (vI i), some (vI x.1), some (vI (nmI x.2.1))], [vI x.1], LW x.2.2 κ2 x.2.2 ρ2 (oP x out))) rfl ?_
  refine hR.br (by omega) (C := x.1 ≠ 0) rfl (by omega) (fun _ => ?_) (fun h => ?_)
  · skip
    refine hR.run0 (by omega) 1 (S' := (2248, [some (vR 98), some (vR 0), some (vR 100), some (vR 120), some (vI i), some (vI x.1), some (vI (nmI x.2.1))], [], LW x.2.2 κ2 x.2.2 ρ2 (oP x out))) rfl ?_
    refine hR.2.2.2.2.2.2 _ 5 _ _ _ _ ?_
    refine hR.2.2.2.2.2.2 _ 6 _ _ _ _ ?_
    exact kont _ _ _ _ _ (Nat.le_refl _) hJ2
  · have h0 : x.1 = 0 := by omega
    have ho := oP_0 (out := out) h0
    have hnr := nmI_r x.2.1
    refine hR.run1 (by omega) 6 (S' := (1316, [some (vR 98), some (vR 0), some (vR 100), some (vR 120), some (vI i), some (vI x.1), some (vI (nmI x.2.1))], [vI (if nmI x.2.1 < (oP x out) 0 then 1 else if (oP x out) 0 = nmI x.2.1 then 0 else -1)], LW x.2.2 κ2 x.2.2 ρ2 (oP x out))) rfl (by rw [ho]; omega) ?_
    refine hR.br (by omega) (C := (if nmI x.2.1 < (oP x out) 0 then (1 : Int) else if (oP x out) 0 = nmI x.2.1 then 0 else -1) = 0) rfl (by (repeat' split) <;> omega) (fun _ => ?_) (fun h => absurd (lc0.mpr ho) h)
    refine hR.run0 (by omega) 1 (S' := (2248, [some (vR 98), some (vR 0), some (vR 100), some (vR 120), some (vI i), some (vI x.1), some (vI (nmI x.2.1))], [], LW x.2.2 κ2 x.2.2 ρ2 (oP x out))) rfl ?_
    refine hR.2.2.2.2.2.2 _ 5 _ _ _ _ ?_
    refine hR.2.2.2.2.2.2 _ 6 _ _ _ _ ?_
    exact kont _ _ _ _ _ (Nat.le_refl _) hJ2
theorem kS_186 : sLinkW RL 186 mL_agree hhL_agree 3 := ⟨gT_at 750 (by decide +kernel) (by decide +kernel), gT_at 751 (by decide +kernel) (by decide +kernel), gT_at 0 (by decide +kernel) (by decide +kernel), gT_at 752 (by decide +kernel) (by decide +kernel), ⟨by decide +kernel, by decide +kernel, by decide +kernel⟩⟩
theorem kL_188 : vLink RL 188 mX6_agree 1 := ⟨gT_at 1245 (by decide +kernel) (by decide +kernel), wX6_agree⟩
set_option maxHeartbeats 4000000 in
theorem cs_agree {xs : Int → Int} {N : Nat} {G : Nat → PS → Prop} (hR : Rl lkL ((98, N, xs) :: roC) bL_law 100 G) (hx : N ≤ 2048 ∧ ∀ j, -2147483648 ≤ xs j ∧ xs j ≤ 2147483647) {τ κ ρ : St} {out : Int → Int} (hJ : Jv τ κ) {k : Nat} (hk : k < 600) {i : Int} (hi : 0 ≤ i ∧ i + 4 ≤ N) (kont : ∀ (τ κ ρ : St) (out : Int → Int) (j : Nat), j ≤ k + 1 → Jv τ κ → G j (2248, Lh_ i, [], LW τ κ τ ρ out)) : G k (1324, Lh_ i, [], LW τ κ τ ρ out) := by
  have hN := hx.1
  have hxr := hx.2
  have hr1 := hxr (i + 1)
  have hro : ∀ q ∈ roC, q ∈ ((98, N, xs) :: roC : PRO) := fun q hq => List.mem_cons_of_mem _ hq
  have hw := wL_agree τ κ τ ρ out hro hr1 hJ.1
  have hm := fun (σ κ2 : St) (out2 : Int → Int) => frM (σ := σ) (κ := κ2) (out := out2) hro (pX6_agree τ ρ hr1 hJ.1)
  have hcd := cd_xAgree τ (xs (i + 1))
  have hth : (sS ρ 0 (xAgree τ (xs (i + 1))).1).1 0 = (xAgree τ (xs (i + 1))).1 := rfl
  have hJ2 := J_agree hJ (xs (i + 1))
  generalize (sS ρ 0 (xAgree τ (xs (i + 1))).1) = ρ2 at hm hth
  generalize xAgree τ (xs (i + 1)) = x at hw hm hcd hth hJ2
  generalize (kAgree κ τ (xs (i + 1))) = κ2 at hw hJ2
  refine hR.run1 (by omega) 7 (S' := (1332, [some (vR 98), some (vR 0), some (vR 100), some (vR 120), some (vI i), none, none], [vR 120, vI (xs (i + 1)), vR 0], LW τ κ τ ρ out)) rfl (by omega) ?_
  refine hR.cw hk [vR 0, vI (xs (i + 1)), vR 120] kS_186 rfl rfl (by decide) (Nat.le_of_ble_eq_true rfl) (by decide) rfl hw ?_
  refine hR.run1 (by omega) 7 (S' := (1344, [some (vR 98), some (vR 0), some (vR 100), some (vR 120), some (vI i), some (vI x.1), none], [vI (xs (i + 1)), vR 100], LW x.2.2 κ2 τ ρ (oP x out))) rfl (by omega) ?_
  refine hR.cv (by omega) [vI (xs (i + 1))] kL_188 rfl rfl ⟨_, _, _, rfl, rfl, rfl⟩ (by decide) (Nat.le_of_ble_eq_true rfl) (by decide) rfl (hm _ _ _) ?_
  show G (k + 1) (1347, [some (vR 98), some (vR 0), some (vR 100), some (vR 120), some (vI i), some (vI x.1), none], [vI x.2.1], LW x.2.2 κ2 x.2.2 ρ2 (oP x out))
  refine hR.2.2.2.2.2.1 _ _ _ _ _ _ ?_
  refine hR.run0 (by omega) 2 (S' := (1350, [some (vR 98), some (vR 0), some (vR 100), some (vR 120), some (vI i), some (vI x.1), some (vI (nmI x.2.1))], [vR 100], LW x.2.2 κ2 x.2.2 ρ2 (oP x out))) rfl ?_
  refine hR.cv (by omega) [] kL_127 rfl rfl ⟨_, _, _, rfl, rfl, rfl⟩ (by decide) (Nat.le_of_ble_eq_true rfl) (by decide) rfl (frM hro (sr_thrown _ _)) ?_
  show G (k + 1) (1353, [some (vR 98), some (vR 0), some (vR 100), some (vR 120), some (vI i), some (vI x.1), some (vI (nmI x.2.1))], [vI (ρ2.1 0)], LW x.2.2 κ2 x.2.2 ρ2 (oP x out))
  rw [hth]
  refine hR.run0 (by omega) 1 (S' := (1355, [some (vR 98), some (vR 0), some (vR 100), some (vR 120), some (vI i), some (vI x.1), some (vI (nmI x.2.1))], [vI x.1, vI x.1], LW x.2.2 κ2 x.2.2 ρ2 (oP x out))) rfl ?_
  refine hR.br (by omega) (C := x.1 = x.1) rfl (by omega) (fun _ => ?_) (fun h => absurd rfl h)
  refine hR.run0 (by omega) 1 (S' := (1362, [some (vR 98), some (vR 0), some (vR 100), some (vR 120), some (vI i), some (vI x.1), some (vI (nmI x.2.1))], [vI x.1], LW x.2.2 κ2 x.2.2 ρ2 (oP x out))) rfl ?_
  refine hR.br (by omega) (C := x.1 ≠ 0) rfl (by omega) (fun _ => ?_) (fun h => ?_)
  · skip
    refine hR.run0 (by omega) 1 (S' := (2248, [some (vR 98), some (vR 0), some (vR 100), some (vR 120), some (vI i), some (vI x.1), some (vI (nmI x.2.1))], [], LW x.2.2 κ2 x.2.2 ρ2 (oP x out))) rfl ?_
    refine hR.2.2.2.2.2.2 _ 5 _ _ _ _ ?_
    refine hR.2.2.2.2.2.2 _ 6 _ _ _ _ ?_
    exact kont _ _ _ _ _ (Nat.le_refl _) hJ2
  · have h0 : x.1 = 0 := by omega
    have ho := oP_0 (out := out) h0
    have hnr := nmI_r x.2.1
    refine hR.run1 (by omega) 6 (S' := (1372, [some (vR 98), some (vR 0), some (vR 100), some (vR 120), some (vI i), some (vI x.1), some (vI (nmI x.2.1))], [vI (if nmI x.2.1 < (oP x out) 0 then 1 else if (oP x out) 0 = nmI x.2.1 then 0 else -1)], LW x.2.2 κ2 x.2.2 ρ2 (oP x out))) rfl (by rw [ho]; omega) ?_
    refine hR.br (by omega) (C := (if nmI x.2.1 < (oP x out) 0 then (1 : Int) else if (oP x out) 0 = nmI x.2.1 then 0 else -1) = 0) rfl (by (repeat' split) <;> omega) (fun _ => ?_) (fun h => absurd (lc0.mpr ho) h)
    refine hR.run0 (by omega) 1 (S' := (2248, [some (vR 98), some (vR 0), some (vR 100), some (vR 120), some (vI i), some (vI x.1), some (vI (nmI x.2.1))], [], LW x.2.2 κ2 x.2.2 ρ2 (oP x out))) rfl ?_
    refine hR.2.2.2.2.2.2 _ 5 _ _ _ _ ?_
    refine hR.2.2.2.2.2.2 _ 6 _ _ _ _ ?_
    exact kont _ _ _ _ _ (Nat.le_refl _) hJ2
theorem kS_189 : sLinkW RL 189 mL_endTurn hhL_endTurn 2 := ⟨gT_at 770 (by decide +kernel) (by decide +kernel), gT_at 771 (by decide +kernel) (by decide +kernel), gT_at 0 (by decide +kernel) (by decide +kernel), gT_at 772 (by decide +kernel) (by decide +kernel), ⟨by decide +kernel, by decide +kernel, by decide +kernel⟩⟩
theorem kL_191 : vLink RL 191 mX6_endTurn 0 := ⟨gT_at 1249 (by decide +kernel) (by decide +kernel), wX6_endTurn⟩
set_option maxHeartbeats 4000000 in
theorem cs_endTurn {xs : Int → Int} {N : Nat} {G : Nat → PS → Prop} (hR : Rl lkL ((98, N, xs) :: roC) bL_law 100 G) (hx : N ≤ 2048 ∧ ∀ j, -2147483648 ≤ xs j ∧ xs j ≤ 2147483647) {τ κ ρ : St} {out : Int → Int} (hJ : Jv τ κ) {k : Nat} (hk : k < 600) {i : Int} (hi : 0 ≤ i ∧ i + 4 ≤ N) (kont : ∀ (τ κ ρ : St) (out : Int → Int) (j : Nat), j ≤ k + 1 → Jv τ κ → G j (2248, Lh_ i, [], LW τ κ τ ρ out)) : G k (1380, Lh_ i, [], LW τ κ τ ρ out) := by
  have hN := hx.1
  have hxr := hx.2
  have hro : ∀ q ∈ roC, q ∈ ((98, N, xs) :: roC : PRO) := fun q hq => List.mem_cons_of_mem _ hq
  have hw := wL_endTurn τ κ τ ρ out hro hJ.1
  have hm := fun (σ κ2 : St) (out2 : Int → Int) => frM (σ := σ) (κ := κ2) (out := out2) hro (pX6_endTurn τ ρ hJ.1)
  have hcd := cd_xEnd τ
  have hth : (sS ρ 0 (xEnd τ).1).1 0 = (xEnd τ).1 := rfl
  have hJ2 := J_endTurn hJ
  generalize (sS ρ 0 (xEnd τ).1) = ρ2 at hm hth
  generalize xEnd τ = x at hw hm hcd hth hJ2
  refine hR.run0 (by omega) 2 (S' := (1382, [some (vR 98), some (vR 0), some (vR 100), some (vR 120), some (vI i), none, none], [vR 120, vR 0], LW τ κ τ ρ out)) rfl ?_
  refine hR.cw hk [vR 0, vR 120] kS_189 rfl rfl (by decide) (Nat.le_of_ble_eq_true rfl) (by decide) rfl hw ?_
  refine hR.run0 (by omega) 2 (S' := (1388, [some (vR 98), some (vR 0), some (vR 100), some (vR 120), some (vI i), some (vI x.1), none], [vR 100], LW x.2.2 κ τ ρ (oP x out))) rfl ?_
  refine hR.cv (by omega) [] kL_191 rfl rfl ⟨_, _, _, rfl, rfl, rfl⟩ (by decide) (Nat.le_of_ble_eq_true rfl) (by decide) rfl (hm _ _ _) ?_
  show G (k + 1) (1391, [some (vR 98), some (vR 0), some (vR 100), some (vR 120), some (vI i), some (vI x.1), none], [vI x.2.1], LW x.2.2 κ x.2.2 ρ2 (oP x out))
  refine hR.2.2.2.2.2.1 _ _ _ _ _ _ ?_
  refine hR.run0 (by omega) 2 (S' := (1394, [some (vR 98), some (vR 0), some (vR 100), some (vR 120), some (vI i), some (vI x.1), some (vI (nmI x.2.1))], [vR 100], LW x.2.2 κ x.2.2 ρ2 (oP x out))) rfl ?_
  refine hR.cv (by omega) [] kL_127 rfl rfl ⟨_, _, _, rfl, rfl, rfl⟩ (by decide) (Nat.le_of_ble_eq_true rfl) (by decide) rfl (frM hro (sr_thrown _ _)) ?_
  show G (k + 1) (1397, [some (vR 98), some (vR 0), some (vR 100), some (vR 120), some (vI i), some (vI x.1), some (vI (nmI x.2.1))], [vI (ρ2.1 0)], LW x.2.2 κ x.2.2 ρ2 (oP x out))
  rw [hth]
  refine hR.run0 (by omega) 1 (S' := (1399, [some (vR 98), some (vR 0), some (vR 100), some (vR 120), some (vI i), some (vI x.1), some (vI (nmI x.2.1))], [vI x.1, vI x.1], LW x.2.2 κ x.2.2 ρ2 (oP x out))) rfl ?_
  refine hR.br (by omega) (C := x.1 = x.1) rfl (by omega) (fun _ => ?_) (fun h => absurd rfl h)
  refine hR.run0 (by omega) 1 (S' := (1406, [some (vR 98), some (vR 0), some (vR 100), some (vR 120), some (vI i), some (vI x.1), some (vI (nmI x.2.1))], [vI x.1], LW x.2.2 κ x.2.2 ρ2 (oP x out))) rfl ?_
  refine hR.br (by omega) (C := x.1 ≠ 0) rfl (by omega) (fun _ => ?_) (fun h => ?_)
  · skip
    refine hR.run0 (by omega) 1 (S' := (2248, [some (vR 98), some (vR 0), some (vR 100), some (vR 120), some (vI i), some (vI x.1), some (vI (nmI x.2.1))], [], LW x.2.2 κ x.2.2 ρ2 (oP x out))) rfl ?_
    refine hR.2.2.2.2.2.2 _ 5 _ _ _ _ ?_
    refine hR.2.2.2.2.2.2 _ 6 _ _ _ _ ?_
    exact kont _ _ _ _ _ (Nat.le_refl _) hJ2
  · have h0 : x.1 = 0 := by omega
    have ho := oP_0 (out := out) h0
    have hnr := nmI_r x.2.1
    refine hR.run1 (by omega) 6 (S' := (1416, [some (vR 98), some (vR 0), some (vR 100), some (vR 120), some (vI i), some (vI x.1), some (vI (nmI x.2.1))], [vI (if nmI x.2.1 < (oP x out) 0 then 1 else if (oP x out) 0 = nmI x.2.1 then 0 else -1)], LW x.2.2 κ x.2.2 ρ2 (oP x out))) rfl (by rw [ho]; omega) ?_
    refine hR.br (by omega) (C := (if nmI x.2.1 < (oP x out) 0 then (1 : Int) else if (oP x out) 0 = nmI x.2.1 then 0 else -1) = 0) rfl (by (repeat' split) <;> omega) (fun _ => ?_) (fun h => absurd (lc0.mpr ho) h)
    refine hR.run0 (by omega) 1 (S' := (2248, [some (vR 98), some (vR 0), some (vR 100), some (vR 120), some (vI i), some (vI x.1), some (vI (nmI x.2.1))], [], LW x.2.2 κ x.2.2 ρ2 (oP x out))) rfl ?_
    refine hR.2.2.2.2.2.2 _ 5 _ _ _ _ ?_
    refine hR.2.2.2.2.2.2 _ 6 _ _ _ _ ?_
    exact kont _ _ _ _ _ (Nat.le_refl _) hJ2
theorem kL_192 : vLink RL 192 mX5_phase 0 := ⟨gT_at 161 (by decide +kernel) (by decide +kernel), wX5_phase⟩
theorem kL_195 : vLink RL 195 mX6_phase 0 := ⟨gT_at 1253 (by decide +kernel) (by decide +kernel), wX6_phase⟩
theorem cs_phase {xs : Int → Int} {N : Nat} {G : Nat → PS → Prop} (hR : Rl lkL ((98, N, xs) :: roC) bL_law 100 G) (hx : N ≤ 2048 ∧ ∀ j, -2147483648 ≤ xs j ∧ xs j ≤ 2147483647) {τ κ ρ : St} {out : Int → Int} (hJ : Jv τ κ) {k : Nat} (hk : k < 600) {i : Int} (hi : 0 ≤ i ∧ i + 4 ≤ N) (kont : ∀ (τ κ ρ : St) (out : Int → Int) (j : Nat), j ≤ k + 1 → Jv τ κ → G j (2248, Lh_ i, [], LW τ κ τ ρ out)) : G k (1424, Lh_ i, [], LW τ κ τ ρ out) := by
  have hro : ∀ q ∈ roC, q ∈ ((98, N, xs) :: roC : PRO) := fun q hq => List.mem_cons_of_mem _ hq
  have hrg := hJ.1.hph
  have h1 : Sp mX5_phase ((98, N, xs) :: roC) 0 [vR 0] (LW τ κ τ ρ out) (.inl (some (vI (τ.1 0)))) (LW τ κ τ ρ out) := frC hro (pX5_phase τ κ hJ.1)
  have h2 : Sp mX6_phase ((98, N, xs) :: roC) 0 [vR 100] (LW τ κ τ ρ out) (.inl (some (vI (τ.1 0)))) (LW τ κ τ (sS ρ 0 0) out) := frM hro (pX6_phase τ ρ hJ.1)
  refine hR.run0 (by omega) 1 (S' := (1425, [some (vR 98), some (vR 0), some (vR 100), some (vR 120), some (vI i), none, none], [vR 0], LW τ κ τ ρ out)) rfl ?_
  refine hR.cv (by omega) [] kL_192 rfl rfl ⟨_, _, _, rfl, rfl, rfl⟩ (by decide) (Nat.le_of_ble_eq_true rfl) (by decide) rfl h1 ?_
  refine hR.run0 (by omega) 1 (S' := (1429, [some (vR 98), some (vR 0), some (vR 100), some (vR 120), some (vI i), none, none], [vR 100, vI (τ.1 0)], LW τ κ τ ρ out)) rfl ?_
  refine hR.cv (by omega) [] kL_195 rfl rfl ⟨_, _, _, rfl, rfl, rfl⟩ (by decide) (Nat.le_of_ble_eq_true rfl) (by decide) rfl h2 ?_
  refine hR.br (by omega) (C := τ.1 0 = τ.1 0) rfl (by omega) (fun _ => ?_) (fun h => absurd rfl h)
  exact kont _ _ _ _ _ (Nat.le_succ _) hJ
theorem kL_196 : vLink RL 196 mX5_turn 0 := ⟨gT_at 165 (by decide +kernel) (by decide +kernel), wX5_turn⟩
theorem kL_199 : vLink RL 199 mX6_turn 0 := ⟨gT_at 1257 (by decide +kernel) (by decide +kernel), wX6_turn⟩
theorem cs_turn {xs : Int → Int} {N : Nat} {G : Nat → PS → Prop} (hR : Rl lkL ((98, N, xs) :: roC) bL_law 100 G) (hx : N ≤ 2048 ∧ ∀ j, -2147483648 ≤ xs j ∧ xs j ≤ 2147483647) {τ κ ρ : St} {out : Int → Int} (hJ : Jv τ κ) {k : Nat} (hk : k < 600) {i : Int} (hi : 0 ≤ i ∧ i + 4 ≤ N) (kont : ∀ (τ κ ρ : St) (out : Int → Int) (j : Nat), j ≤ k + 1 → Jv τ κ → G j (2248, Lh_ i, [], LW τ κ τ ρ out)) : G k (1437, Lh_ i, [], LW τ κ τ ρ out) := by
  have hro : ∀ q ∈ roC, q ∈ ((98, N, xs) :: roC : PRO) := fun q hq => List.mem_cons_of_mem _ hq
  have hrg := hJ.1.htu
  have h1 : Sp mX5_turn ((98, N, xs) :: roC) 0 [vR 0] (LW τ κ τ ρ out) (.inl (some (vI (τ.1 1)))) (LW τ κ τ ρ out) := frC hro (pX5_turn τ κ hJ.1)
  have h2 : Sp mX6_turn ((98, N, xs) :: roC) 0 [vR 100] (LW τ κ τ ρ out) (.inl (some (vI (τ.1 1)))) (LW τ κ τ (sS ρ 0 0) out) := frM hro (pX6_turn τ ρ hJ.1)
  refine hR.run0 (by omega) 1 (S' := (1438, [some (vR 98), some (vR 0), some (vR 100), some (vR 120), some (vI i), none, none], [vR 0], LW τ κ τ ρ out)) rfl ?_
  refine hR.cv (by omega) [] kL_196 rfl rfl ⟨_, _, _, rfl, rfl, rfl⟩ (by decide) (Nat.le_of_ble_eq_true rfl) (by decide) rfl h1 ?_
  refine hR.run0 (by omega) 1 (S' := (1442, [some (vR 98), some (vR 0), some (vR 100), some (vR 120), some (vI i), none, none], [vR 100, vI (τ.1 1)], LW τ κ τ ρ out)) rfl ?_
  refine hR.cv (by omega) [] kL_199 rfl rfl ⟨_, _, _, rfl, rfl, rfl⟩ (by decide) (Nat.le_of_ble_eq_true rfl) (by decide) rfl h2 ?_
  refine hR.br (by omega) (C := τ.1 1 = τ.1 1) rfl (by omega) (fun _ => ?_) (fun h => absurd rfl h)
  exact kont _ _ _ _ _ (Nat.le_succ _) hJ
theorem kS_200 : sLinkW RL 200 mL_hand hhL_hand 4 := ⟨gT_at 781 (by decide +kernel) (by decide +kernel), gT_at 782 (by decide +kernel) (by decide +kernel), gT_at 0 (by decide +kernel) (by decide +kernel), gT_at 783 (by decide +kernel) (by decide +kernel), ⟨by decide +kernel, by decide +kernel, by decide +kernel⟩⟩
theorem kL_202 : vLink RL 202 mX6_hand 2 := ⟨gT_at 1261 (by decide +kernel) (by decide +kernel), wX6_hand⟩
set_option maxHeartbeats 4000000 in
theorem cs_hand {xs : Int → Int} {N : Nat} {G : Nat → PS → Prop} (hR : Rl lkL ((98, N, xs) :: roC) bL_law 100 G) (hx : N ≤ 2048 ∧ ∀ j, -2147483648 ≤ xs j ∧ xs j ≤ 2147483647) {τ κ ρ : St} {out : Int → Int} (hJ : Jv τ κ) {k : Nat} (hk : k < 600) {i : Int} (hi : 0 ≤ i ∧ i + 4 ≤ N) (kont : ∀ (τ κ ρ : St) (out : Int → Int) (j : Nat), j ≤ k + 1 → Jv τ κ → G j (2248, Lh_ i, [], LW τ κ τ ρ out)) : G k (1450, Lh_ i, [], LW τ κ τ ρ out) := by
  have hN := hx.1
  have hxr := hx.2
  have hr1 := hxr (i + 1)
  have hr2 := hxr (i + 2)
  have hro : ∀ q ∈ roC, q ∈ ((98, N, xs) :: roC : PRO) := fun q hq => List.mem_cons_of_mem _ hq
  have hw := wL_hand τ κ τ ρ out hro hr1 hr2 hJ.1
  have hm := fun (σ κ2 : St) (out2 : Int → Int) => frM (σ := σ) (κ := κ2) (out := out2) hro (pX6_hand τ ρ hr1 hr2 hJ.1)
  have hcd := cd_xHand τ (xs (i + 1)) (xs (i + 2))
  have hth : (sS ρ 0 (xHand τ (xs (i + 1)) (xs (i + 2))).1).1 0 = (xHand τ (xs (i + 1)) (xs (i + 2))).1 := rfl
  have hJ2 := J_hand hJ (xs (i + 1)) (xs (i + 2))
  generalize (sS ρ 0 (xHand τ (xs (i + 1)) (xs (i + 2))).1) = ρ2 at hm hth
  generalize xHand τ (xs (i + 1)) (xs (i + 2)) = x at hw hm hcd hth hJ2
  refine hR.run1 (by omega) 12 (S' := (1464, [some (vR 98), some (vR 0), some (vR 100), some (vR 120), some (vI i), none, none], [vR 120, vI (xs (i + 2)), vI (xs (i + 1)), vR 0], LW τ κ τ ρ out)) rfl (by omega) ?_
  refine hR.cw hk [vR 0, vI (xs (i + 1)), vI (xs (i + 2)), vR 120] kS_200 rfl rfl (by decide) (Nat.le_of_ble_eq_true rfl) (by decide) rfl hw ?_
  refine hR.run1 (by omega) 12 (S' := (1482, [some (vR 98), some (vR 0), some (vR 100), some (vR 120), some (vI i), some (vI x.1), none], [vI (xs (i + 2)), vI (xs (i + 1)), vR 100], LW x.2.2 κ τ ρ (oP x out))) rfl (by omega) ?_
  refine hR.cv (by omega) [vI (xs (i + 1)), vI (xs (i + 2))] kL_202 rfl rfl ⟨_, _, _, rfl, rfl, rfl⟩ (by decide) (Nat.le_of_ble_eq_true rfl) (by decide) rfl (hm _ _ _) ?_
  show G (k + 1) (1485, [some (vR 98), some (vR 0), some (vR 100), some (vR 120), some (vI i), some (vI x.1), none], [vI x.2.1], LW x.2.2 κ x.2.2 ρ2 (oP x out))
  refine hR.2.2.2.2.2.1 _ _ _ _ _ _ ?_
  refine hR.run0 (by omega) 2 (S' := (1488, [some (vR 98), some (vR 0), some (vR 100), some (vR 120), some (vI i), some (vI x.1), some (vI (nmI x.2.1))], [vR 100], LW x.2.2 κ x.2.2 ρ2 (oP x out))) rfl ?_
  refine hR.cv (by omega) [] kL_127 rfl rfl ⟨_, _, _, rfl, rfl, rfl⟩ (by decide) (Nat.le_of_ble_eq_true rfl) (by decide) rfl (frM hro (sr_thrown _ _)) ?_
  show G (k + 1) (1491, [some (vR 98), some (vR 0), some (vR 100), some (vR 120), some (vI i), some (vI x.1), some (vI (nmI x.2.1))], [vI (ρ2.1 0)], LW x.2.2 κ x.2.2 ρ2 (oP x out))
  rw [hth]
  refine hR.run0 (by omega) 1 (S' := (1493, [some (vR 98), some (vR 0), some (vR 100), some (vR 120), some (vI i), some (vI x.1), some (vI (nmI x.2.1))], [vI x.1, vI x.1], LW x.2.2 κ x.2.2 ρ2 (oP x out))) rfl ?_
  refine hR.br (by omega) (C := x.1 = x.1) rfl (by omega) (fun _ => ?_) (fun h => absurd rfl h)
  refine hR.run0 (by omega) 1 (S' := (1500, [some (vR 98), some (vR 0), some (vR 100), some (vR 120), some (vI i), some (vI x.1), some (vI (nmI x.2.1))], [vI x.1], LW x.2.2 κ x.2.2 ρ2 (oP x out))) rfl ?_
  refine hR.br (by omega) (C := x.1 ≠ 0) rfl (by omega) (fun _ => ?_) (fun h => ?_)
  · skip
    refine hR.run0 (by omega) 1 (S' := (2248, [some (vR 98), some (vR 0), some (vR 100), some (vR 120), some (vI i), some (vI x.1), some (vI (nmI x.2.1))], [], LW x.2.2 κ x.2.2 ρ2 (oP x out))) rfl ?_
    refine hR.2.2.2.2.2.2 _ 5 _ _ _ _ ?_
    refine hR.2.2.2.2.2.2 _ 6 _ _ _ _ ?_
    exact kont _ _ _ _ _ (Nat.le_refl _) hJ2
  · have h0 : x.1 = 0 := by omega
    have ho := oP_0 (out := out) h0
    have hnr := nmI_r x.2.1
    refine hR.run1 (by omega) 6 (S' := (1510, [some (vR 98), some (vR 0), some (vR 100), some (vR 120), some (vI i), some (vI x.1), some (vI (nmI x.2.1))], [vI (if nmI x.2.1 < (oP x out) 0 then 1 else if (oP x out) 0 = nmI x.2.1 then 0 else -1)], LW x.2.2 κ x.2.2 ρ2 (oP x out))) rfl (by rw [ho]; omega) ?_
    refine hR.br (by omega) (C := (if nmI x.2.1 < (oP x out) 0 then (1 : Int) else if (oP x out) 0 = nmI x.2.1 then 0 else -1) = 0) rfl (by (repeat' split) <;> omega) (fun _ => ?_) (fun h => absurd (lc0.mpr ho) h)
    refine hR.run0 (by omega) 1 (S' := (2248, [some (vR 98), some (vR 0), some (vR 100), some (vR 120), some (vI i), some (vI x.1), some (vI (nmI x.2.1))], [], LW x.2.2 κ x.2.2 ρ2 (oP x out))) rfl ?_
    refine hR.2.2.2.2.2.2 _ 5 _ _ _ _ ?_
    refine hR.2.2.2.2.2.2 _ 6 _ _ _ _ ?_
    exact kont _ _ _ _ _ (Nat.le_refl _) hJ2
theorem kS_203 : sLinkW RL 203 mL_handByMoves hhL_handByMoves 4 := ⟨gT_at 791 (by decide +kernel) (by decide +kernel), gT_at 792 (by decide +kernel) (by decide +kernel), gT_at 0 (by decide +kernel) (by decide +kernel), gT_at 793 (by decide +kernel) (by decide +kernel), ⟨by decide +kernel, by decide +kernel, by decide +kernel⟩⟩
theorem kL_205 : vLink RL 205 mX6_handByMoves 2 := ⟨gT_at 1269 (by decide +kernel) (by decide +kernel), wX6_handByMoves⟩
set_option maxHeartbeats 4000000 in
theorem cs_handByMoves {xs : Int → Int} {N : Nat} {G : Nat → PS → Prop} (hR : Rl lkL ((98, N, xs) :: roC) bL_law 100 G) (hx : N ≤ 2048 ∧ ∀ j, -2147483648 ≤ xs j ∧ xs j ≤ 2147483647) {τ κ ρ : St} {out : Int → Int} (hJ : Jv τ κ) {k : Nat} (hk : k < 600) {i : Int} (hi : 0 ≤ i ∧ i + 4 ≤ N) (kont : ∀ (τ κ ρ : St) (out : Int → Int) (j : Nat), j ≤ k + 1 → Jv τ κ → G j (2248, Lh_ i, [], LW τ κ τ ρ out)) : G k (1518, Lh_ i, [], LW τ κ τ ρ out) := by
  have hN := hx.1
  have hxr := hx.2
  have hr1 := hxr (i + 1)
  have hr2 := hxr (i + 2)
  have hro : ∀ q ∈ roC, q ∈ ((98, N, xs) :: roC : PRO) := fun q hq => List.mem_cons_of_mem _ hq
  have hw := wL_handByMoves τ κ τ ρ out hro hr1 hr2 hJ.1
  rw [xHandK_eq hJ] at hw
  have hm := fun (σ κ2 : St) (out2 : Int → Int) => frM (σ := σ) (κ := κ2) (out := out2) hro (pX6_handByMoves τ ρ hr1 hr2 hJ.1)
  have hcd := cd_xHand τ (xs (i + 1)) (xs (i + 2))
  have hth : (sS ρ 0 (xHand τ (xs (i + 1)) (xs (i + 2))).1).1 0 = (xHand τ (xs (i + 1)) (xs (i + 2))).1 := rfl
  have hJ2 := J_handByMoves hJ (xs (i + 1)) (xs (i + 2))
  generalize (sS ρ 0 (xHand τ (xs (i + 1)) (xs (i + 2))).1) = ρ2 at hm hth
  generalize xHand τ (xs (i + 1)) (xs (i + 2)) = x at hw hm hcd hth hJ2
  refine hR.run1 (by omega) 12 (S' := (1532, [some (vR 98), some (vR 0), some (vR 100), some (vR 120), some (vI i), none, none], [vR 120, vI (xs (i + 2)), vI (xs (i + 1)), vR 0], LW τ κ τ ρ out)) rfl (by omega) ?_
  refine hR.cw hk [vR 0, vI (xs (i + 1)), vI (xs (i + 2)), vR 120] kS_203 rfl rfl (by decide) (Nat.le_of_ble_eq_true rfl) (by decide) rfl hw ?_
  refine hR.run1 (by omega) 12 (S' := (1550, [some (vR 98), some (vR 0), some (vR 100), some (vR 120), some (vI i), some (vI x.1), none], [vI (xs (i + 2)), vI (xs (i + 1)), vR 100], LW x.2.2 κ τ ρ (oP x out))) rfl (by omega) ?_
  refine hR.cv (by omega) [vI (xs (i + 1)), vI (xs (i + 2))] kL_205 rfl rfl ⟨_, _, _, rfl, rfl, rfl⟩ (by decide) (Nat.le_of_ble_eq_true rfl) (by decide) rfl (hm _ _ _) ?_
  show G (k + 1) (1553, [some (vR 98), some (vR 0), some (vR 100), some (vR 120), some (vI i), some (vI x.1), none], [vI x.2.1], LW x.2.2 κ x.2.2 ρ2 (oP x out))
  refine hR.2.2.2.2.2.1 _ _ _ _ _ _ ?_
  refine hR.run0 (by omega) 2 (S' := (1556, [some (vR 98), some (vR 0), some (vR 100), some (vR 120), some (vI i), some (vI x.1), some (vI (nmI x.2.1))], [vR 100], LW x.2.2 κ x.2.2 ρ2 (oP x out))) rfl ?_
  refine hR.cv (by omega) [] kL_127 rfl rfl ⟨_, _, _, rfl, rfl, rfl⟩ (by decide) (Nat.le_of_ble_eq_true rfl) (by decide) rfl (frM hro (sr_thrown _ _)) ?_
  show G (k + 1) (1559, [some (vR 98), some (vR 0), some (vR 100), some (vR 120), some (vI i), some (vI x.1), some (vI (nmI x.2.1))], [vI (ρ2.1 0)], LW x.2.2 κ x.2.2 ρ2 (oP x out))
  rw [hth]
  refine hR.run0 (by omega) 1 (S' := (1561, [some (vR 98), some (vR 0), some (vR 100), some (vR 120), some (vI i), some (vI x.1), some (vI (nmI x.2.1))], [vI x.1, vI x.1], LW x.2.2 κ x.2.2 ρ2 (oP x out))) rfl ?_
  refine hR.br (by omega) (C := x.1 = x.1) rfl (by omega) (fun _ => ?_) (fun h => absurd rfl h)
  refine hR.run0 (by omega) 1 (S' := (1568, [some (vR 98), some (vR 0), some (vR 100), some (vR 120), some (vI i), some (vI x.1), some (vI (nmI x.2.1))], [vI x.1], LW x.2.2 κ x.2.2 ρ2 (oP x out))) rfl ?_
  refine hR.br (by omega) (C := x.1 ≠ 0) rfl (by omega) (fun _ => ?_) (fun h => ?_)
  · skip
    refine hR.run0 (by omega) 1 (S' := (2248, [some (vR 98), some (vR 0), some (vR 100), some (vR 120), some (vI i), some (vI x.1), some (vI (nmI x.2.1))], [], LW x.2.2 κ x.2.2 ρ2 (oP x out))) rfl ?_
    refine hR.2.2.2.2.2.2 _ 5 _ _ _ _ ?_
    refine hR.2.2.2.2.2.2 _ 6 _ _ _ _ ?_
    exact kont _ _ _ _ _ (Nat.le_refl _) hJ2
  · have h0 : x.1 = 0 := by omega
    have ho := oP_0 (out := out) h0
    have hnr := nmI_r x.2.1
    refine hR.run1 (by omega) 6 (S' := (1578, [some (vR 98), some (vR 0), some (vR 100), some (vR 120), some (vI i), some (vI x.1), some (vI (nmI x.2.1))], [vI (if nmI x.2.1 < (oP x out) 0 then 1 else if (oP x out) 0 = nmI x.2.1 then 0 else -1)], LW x.2.2 κ x.2.2 ρ2 (oP x out))) rfl (by rw [ho]; omega) ?_
    refine hR.br (by omega) (C := (if nmI x.2.1 < (oP x out) 0 then (1 : Int) else if (oP x out) 0 = nmI x.2.1 then 0 else -1) = 0) rfl (by (repeat' split) <;> omega) (fun _ => ?_) (fun h => absurd (lc0.mpr ho) h)
    refine hR.run0 (by omega) 1 (S' := (2248, [some (vR 98), some (vR 0), some (vR 100), some (vR 120), some (vI i), some (vI x.1), some (vI (nmI x.2.1))], [], LW x.2.2 κ x.2.2 ρ2 (oP x out))) rfl ?_
    refine hR.2.2.2.2.2.2 _ 5 _ _ _ _ ?_
    refine hR.2.2.2.2.2.2 _ 6 _ _ _ _ ?_
    exact kont _ _ _ _ _ (Nat.le_refl _) hJ2
theorem kS_206 : sLinkW RL 206 mL_due hhL_due 3 := ⟨gT_at 802 (by decide +kernel) (by decide +kernel), gT_at 803 (by decide +kernel) (by decide +kernel), gT_at 0 (by decide +kernel) (by decide +kernel), gT_at 804 (by decide +kernel) (by decide +kernel), ⟨by decide +kernel, by decide +kernel, by decide +kernel⟩⟩
theorem kL_208 : vLink RL 208 mX6_due 1 := ⟨gT_at 1273 (by decide +kernel) (by decide +kernel), wX6_due⟩
set_option maxHeartbeats 4000000 in
theorem cs_due {xs : Int → Int} {N : Nat} {G : Nat → PS → Prop} (hR : Rl lkL ((98, N, xs) :: roC) bL_law 100 G) (hx : N ≤ 2048 ∧ ∀ j, -2147483648 ≤ xs j ∧ xs j ≤ 2147483647) {τ κ ρ : St} {out : Int → Int} (hJ : Jv τ κ) {k : Nat} (hk : k < 600) {i : Int} (hi : 0 ≤ i ∧ i + 4 ≤ N) (kont : ∀ (τ κ ρ : St) (out : Int → Int) (j : Nat), j ≤ k + 1 → Jv τ κ → G j (2248, Lh_ i, [], LW τ κ τ ρ out)) : G k (1586, Lh_ i, [], LW τ κ τ ρ out) := by
  have hN := hx.1
  have hxr := hx.2
  have hr1 := hxr (i + 1)
  have hro : ∀ q ∈ roC, q ∈ ((98, N, xs) :: roC : PRO) := fun q hq => List.mem_cons_of_mem _ hq
  have hw := wL_due τ κ τ ρ out hro hr1 hJ.1
  have hm := fun (σ κ2 : St) (out2 : Int → Int) => frM (σ := σ) (κ := κ2) (out := out2) hro (pX6_due τ ρ hr1 hJ.1)
  have hcd := cd_xDue τ (xs (i + 1))
  have hth : (sS ρ 0 (xDue τ (xs (i + 1))).1).1 0 = (xDue τ (xs (i + 1))).1 := rfl
  have hJ2 := J_due hJ (xs (i + 1))
  generalize (sS ρ 0 (xDue τ (xs (i + 1))).1) = ρ2 at hm hth
  generalize xDue τ (xs (i + 1)) = x at hw hm hcd hth hJ2
  refine hR.run1 (by omega) 7 (S' := (1594, [some (vR 98), some (vR 0), some (vR 100), some (vR 120), some (vI i), none, none], [vR 120, vI (xs (i + 1)), vR 0], LW τ κ τ ρ out)) rfl (by omega) ?_
  refine hR.cw hk [vR 0, vI (xs (i + 1)), vR 120] kS_206 rfl rfl (by decide) (Nat.le_of_ble_eq_true rfl) (by decide) rfl hw ?_
  refine hR.run1 (by omega) 7 (S' := (1606, [some (vR 98), some (vR 0), some (vR 100), some (vR 120), some (vI i), some (vI x.1), none], [vI (xs (i + 1)), vR 100], LW x.2.2 κ τ ρ (oP x out))) rfl (by omega) ?_
  refine hR.cv (by omega) [vI (xs (i + 1))] kL_208 rfl rfl ⟨_, _, _, rfl, rfl, rfl⟩ (by decide) (Nat.le_of_ble_eq_true rfl) (by decide) rfl (hm _ _ _) ?_
  show G (k + 1) (1609, [some (vR 98), some (vR 0), some (vR 100), some (vR 120), some (vI i), some (vI x.1), none], [vI x.2.1], LW x.2.2 κ x.2.2 ρ2 (oP x out))
  refine hR.2.2.2.2.2.1 _ _ _ _ _ _ ?_
  refine hR.run0 (by omega) 2 (S' := (1612, [some (vR 98), some (vR 0), some (vR 100), some (vR 120), some (vI i), some (vI x.1), some (vI (nmI x.2.1))], [vR 100], LW x.2.2 κ x.2.2 ρ2 (oP x out))) rfl ?_
  refine hR.cv (by omega) [] kL_127 rfl rfl ⟨_, _, _, rfl, rfl, rfl⟩ (by decide) (Nat.le_of_ble_eq_true rfl) (by decide) rfl (frM hro (sr_thrown _ _)) ?_
  show G (k + 1) (1615, [some (vR 98), some (vR 0), some (vR 100), some (vR 120), some (vI i), some (vI x.1), some (vI (nmI x.2.1))], [vI (ρ2.1 0)], LW x.2.2 κ x.2.2 ρ2 (oP x out))
  rw [hth]
  refine hR.run0 (by omega) 1 (S' := (1617, [some (vR 98), some (vR 0), some (vR 100), some (vR 120), some (vI i), some (vI x.1), some (vI (nmI x.2.1))], [vI x.1, vI x.1], LW x.2.2 κ x.2.2 ρ2 (oP x out))) rfl ?_
  refine hR.br (by omega) (C := x.1 = x.1) rfl (by omega) (fun _ => ?_) (fun h => absurd rfl h)
  refine hR.run0 (by omega) 1 (S' := (1624, [some (vR 98), some (vR 0), some (vR 100), some (vR 120), some (vI i), some (vI x.1), some (vI (nmI x.2.1))], [vI x.1], LW x.2.2 κ x.2.2 ρ2 (oP x out))) rfl ?_
  refine hR.br (by omega) (C := x.1 ≠ 0) rfl (by omega) (fun _ => ?_) (fun h => ?_)
  · skip
    refine hR.run0 (by omega) 1 (S' := (2248, [some (vR 98), some (vR 0), some (vR 100), some (vR 120), some (vI i), some (vI x.1), some (vI (nmI x.2.1))], [], LW x.2.2 κ x.2.2 ρ2 (oP x out))) rfl ?_
    refine hR.2.2.2.2.2.2 _ 5 _ _ _ _ ?_
    refine hR.2.2.2.2.2.2 _ 6 _ _ _ _ ?_
    exact kont _ _ _ _ _ (Nat.le_refl _) hJ2
  · have h0 : x.1 = 0 := by omega
    have ho := oP_0 (out := out) h0
    have hnr := nmI_r x.2.1
    refine hR.run1 (by omega) 6 (S' := (1634, [some (vR 98), some (vR 0), some (vR 100), some (vR 120), some (vI i), some (vI x.1), some (vI (nmI x.2.1))], [vI (if nmI x.2.1 < (oP x out) 0 then 1 else if (oP x out) 0 = nmI x.2.1 then 0 else -1)], LW x.2.2 κ x.2.2 ρ2 (oP x out))) rfl (by rw [ho]; omega) ?_
    refine hR.br (by omega) (C := (if nmI x.2.1 < (oP x out) 0 then (1 : Int) else if (oP x out) 0 = nmI x.2.1 then 0 else -1) = 0) rfl (by (repeat' split) <;> omega) (fun _ => ?_) (fun h => absurd (lc0.mpr ho) h)
    refine hR.run0 (by omega) 1 (S' := (2248, [some (vR 98), some (vR 0), some (vR 100), some (vR 120), some (vI i), some (vI x.1), some (vI (nmI x.2.1))], [], LW x.2.2 κ x.2.2 ρ2 (oP x out))) rfl ?_
    refine hR.2.2.2.2.2.2 _ 5 _ _ _ _ ?_
    refine hR.2.2.2.2.2.2 _ 6 _ _ _ _ ?_
    exact kont _ _ _ _ _ (Nat.le_refl _) hJ2
theorem kS_209 : sLinkW RL 209 mL_points hhL_points 3 := ⟨gT_at 809 (by decide +kernel) (by decide +kernel), gT_at 810 (by decide +kernel) (by decide +kernel), gT_at 0 (by decide +kernel) (by decide +kernel), gT_at 811 (by decide +kernel) (by decide +kernel), ⟨by decide +kernel, by decide +kernel, by decide +kernel⟩⟩
theorem kL_211 : vLink RL 211 mX6_points 1 := ⟨gT_at 1277 (by decide +kernel) (by decide +kernel), wX6_points⟩
set_option maxHeartbeats 4000000 in
theorem cs_points {xs : Int → Int} {N : Nat} {G : Nat → PS → Prop} (hR : Rl lkL ((98, N, xs) :: roC) bL_law 100 G) (hx : N ≤ 2048 ∧ ∀ j, -2147483648 ≤ xs j ∧ xs j ≤ 2147483647) {τ κ ρ : St} {out : Int → Int} (hJ : Jv τ κ) {k : Nat} (hk : k < 600) {i : Int} (hi : 0 ≤ i ∧ i + 4 ≤ N) (kont : ∀ (τ κ ρ : St) (out : Int → Int) (j : Nat), j ≤ k + 1 → Jv τ κ → G j (2248, Lh_ i, [], LW τ κ τ ρ out)) : G k (1642, Lh_ i, [], LW τ κ τ ρ out) := by
  have hN := hx.1
  have hxr := hx.2
  have hr1 := hxr (i + 1)
  have hro : ∀ q ∈ roC, q ∈ ((98, N, xs) :: roC : PRO) := fun q hq => List.mem_cons_of_mem _ hq
  have hw := wL_points τ κ τ ρ out hro hr1 hJ.1
  have hm := fun (σ κ2 : St) (out2 : Int → Int) => frM (σ := σ) (κ := κ2) (out := out2) hro (pX6_points τ ρ hr1 hJ.1)
  have hcd := cd_xPoints τ (xs (i + 1))
  have hth : (sS ρ 0 (xPoints τ (xs (i + 1))).1).1 0 = (xPoints τ (xs (i + 1))).1 := rfl
  have hJ2 := J_points hJ (xs (i + 1))
  generalize (sS ρ 0 (xPoints τ (xs (i + 1))).1) = ρ2 at hm hth
  generalize xPoints τ (xs (i + 1)) = x at hw hm hcd hth hJ2
  refine hR.run1 (by omega) 7 (S' := (1650, [some (vR 98), some (vR 0), some (vR 100), some (vR 120), some (vI i), none, none], [vR 120, vI (xs (i + 1)), vR 0], LW τ κ τ ρ out)) rfl (by omega) ?_
  refine hR.cw hk [vR 0, vI (xs (i + 1)), vR 120] kS_209 rfl rfl (by decide) (Nat.le_of_ble_eq_true rfl) (by decide) rfl hw ?_
  refine hR.run1 (by omega) 7 (S' := (1662, [some (vR 98), some (vR 0), some (vR 100), some (vR 120), some (vI i), some (vI x.1), none], [vI (xs (i + 1)), vR 100], LW x.2.2 κ τ ρ (oP x out))) rfl (by omega) ?_
  refine hR.cv (by omega) [vI (xs (i + 1))] kL_211 rfl rfl ⟨_, _, _, rfl, rfl, rfl⟩ (by decide) (Nat.le_of_ble_eq_true rfl) (by decide) rfl (hm _ _ _) ?_
  show G (k + 1) (1665, [some (vR 98), some (vR 0), some (vR 100), some (vR 120), some (vI i), some (vI x.1), none], [vI x.2.1], LW x.2.2 κ x.2.2 ρ2 (oP x out))
  refine hR.2.2.2.2.2.1 _ _ _ _ _ _ ?_
  refine hR.run0 (by omega) 2 (S' := (1668, [some (vR 98), some (vR 0), some (vR 100), some (vR 120), some (vI i), some (vI x.1), some (vI (nmI x.2.1))], [vR 100], LW x.2.2 κ x.2.2 ρ2 (oP x out))) rfl ?_
  refine hR.cv (by omega) [] kL_127 rfl rfl ⟨_, _, _, rfl, rfl, rfl⟩ (by decide) (Nat.le_of_ble_eq_true rfl) (by decide) rfl (frM hro (sr_thrown _ _)) ?_
  show G (k + 1) (1671, [some (vR 98), some (vR 0), some (vR 100), some (vR 120), some (vI i), some (vI x.1), some (vI (nmI x.2.1))], [vI (ρ2.1 0)], LW x.2.2 κ x.2.2 ρ2 (oP x out))
  rw [hth]
  refine hR.run0 (by omega) 1 (S' := (1673, [some (vR 98), some (vR 0), some (vR 100), some (vR 120), some (vI i), some (vI x.1), some (vI (nmI x.2.1))], [vI x.1, vI x.1], LW x.2.2 κ x.2.2 ρ2 (oP x out))) rfl ?_
  refine hR.br (by omega) (C := x.1 = x.1) rfl (by omega) (fun _ => ?_) (fun h => absurd rfl h)
  refine hR.run0 (by omega) 1 (S' := (1680, [some (vR 98), some (vR 0), some (vR 100), some (vR 120), some (vI i), some (vI x.1), some (vI (nmI x.2.1))], [vI x.1], LW x.2.2 κ x.2.2 ρ2 (oP x out))) rfl ?_
  refine hR.br (by omega) (C := x.1 ≠ 0) rfl (by omega) (fun _ => ?_) (fun h => ?_)
  · skip
    refine hR.run0 (by omega) 1 (S' := (2248, [some (vR 98), some (vR 0), some (vR 100), some (vR 120), some (vI i), some (vI x.1), some (vI (nmI x.2.1))], [], LW x.2.2 κ x.2.2 ρ2 (oP x out))) rfl ?_
    refine hR.2.2.2.2.2.2 _ 5 _ _ _ _ ?_
    refine hR.2.2.2.2.2.2 _ 6 _ _ _ _ ?_
    exact kont _ _ _ _ _ (Nat.le_refl _) hJ2
  · have h0 : x.1 = 0 := by omega
    have ho := oP_0 (out := out) h0
    have hnr := nmI_r x.2.1
    refine hR.run1 (by omega) 6 (S' := (1690, [some (vR 98), some (vR 0), some (vR 100), some (vR 120), some (vI i), some (vI x.1), some (vI (nmI x.2.1))], [vI (if nmI x.2.1 < (oP x out) 0 then 1 else if (oP x out) 0 = nmI x.2.1 then 0 else -1)], LW x.2.2 κ x.2.2 ρ2 (oP x out))) rfl (by rw [ho]; omega) ?_
    refine hR.br (by omega) (C := (if nmI x.2.1 < (oP x out) 0 then (1 : Int) else if (oP x out) 0 = nmI x.2.1 then 0 else -1) = 0) rfl (by (repeat' split) <;> omega) (fun _ => ?_) (fun h => absurd (lc0.mpr ho) h)
    refine hR.run0 (by omega) 1 (S' := (2248, [some (vR 98), some (vR 0), some (vR 100), some (vR 120), some (vI i), some (vI x.1), some (vI (nmI x.2.1))], [], LW x.2.2 κ x.2.2 ρ2 (oP x out))) rfl ?_
    refine hR.2.2.2.2.2.2 _ 5 _ _ _ _ ?_
    refine hR.2.2.2.2.2.2 _ 6 _ _ _ _ ?_
    exact kont _ _ _ _ _ (Nat.le_refl _) hJ2
theorem kS_212 : sLinkW RL 212 mL_trail hhL_trail 3 := ⟨gT_at 816 (by decide +kernel) (by decide +kernel), gT_at 817 (by decide +kernel) (by decide +kernel), gT_at 0 (by decide +kernel) (by decide +kernel), gT_at 818 (by decide +kernel) (by decide +kernel), ⟨by decide +kernel, by decide +kernel, by decide +kernel⟩⟩
theorem kL_214 : vLink RL 214 mX6_trail 1 := ⟨gT_at 1281 (by decide +kernel) (by decide +kernel), wX6_trail⟩
set_option maxHeartbeats 4000000 in
theorem cs_trail {xs : Int → Int} {N : Nat} {G : Nat → PS → Prop} (hR : Rl lkL ((98, N, xs) :: roC) bL_law 100 G) (hx : N ≤ 2048 ∧ ∀ j, -2147483648 ≤ xs j ∧ xs j ≤ 2147483647) {τ κ ρ : St} {out : Int → Int} (hJ : Jv τ κ) {k : Nat} (hk : k < 600) {i : Int} (hi : 0 ≤ i ∧ i + 4 ≤ N) (kont : ∀ (τ κ ρ : St) (out : Int → Int) (j : Nat), j ≤ k + 1 → Jv τ κ → G j (2248, Lh_ i, [], LW τ κ τ ρ out)) : G k (1698, Lh_ i, [], LW τ κ τ ρ out) := by
  have hN := hx.1
  have hxr := hx.2
  have hr1 := hxr (i + 1)
  have hro : ∀ q ∈ roC, q ∈ ((98, N, xs) :: roC : PRO) := fun q hq => List.mem_cons_of_mem _ hq
  have hw := wL_trail τ κ τ ρ out hro hr1 hJ.2.2.1 hJ.2.2.2.1 hJ.1
  have hm := fun (σ κ2 : St) (out2 : Int → Int) => frM (σ := σ) (κ := κ2) (out := out2) hro (pX6_trail τ ρ hr1 hJ.1)
  have hcd := cd_xTrail τ (xs (i + 1))
  have hth : (rTrail τ ρ (xs (i + 1))).1 0 = (xTrail τ (xs (i + 1))).1 := r1_rTrail τ ρ (xs (i + 1))
  have hJ2 := J_trail hJ (xs (i + 1))
  generalize (rTrail τ ρ (xs (i + 1))) = ρ2 at hm hth
  generalize xTrail τ (xs (i + 1)) = x at hw hm hcd hth hJ2
  generalize (kTrail κ τ (xs (i + 1))) = κ2 at hw hJ2
  refine hR.run1 (by omega) 7 (S' := (1706, [some (vR 98), some (vR 0), some (vR 100), some (vR 120), some (vI i), none, none], [vR 120, vI (xs (i + 1)), vR 0], LW τ κ τ ρ out)) rfl (by omega) ?_
  refine hR.cw hk [vR 0, vI (xs (i + 1)), vR 120] kS_212 rfl rfl (by decide) (Nat.le_of_ble_eq_true rfl) (by decide) rfl hw ?_
  refine hR.run1 (by omega) 7 (S' := (1718, [some (vR 98), some (vR 0), some (vR 100), some (vR 120), some (vI i), some (vI x.1), none], [vI (xs (i + 1)), vR 100], LW x.2.2 κ2 τ ρ (oP x out))) rfl (by omega) ?_
  refine hR.cv (by omega) [vI (xs (i + 1))] kL_214 rfl rfl ⟨_, _, _, rfl, rfl, rfl⟩ (by decide) (Nat.le_of_ble_eq_true rfl) (by decide) rfl (hm _ _ _) ?_
  show G (k + 1) (1721, [some (vR 98), some (vR 0), some (vR 100), some (vR 120), some (vI i), some (vI x.1), none], [vI x.2.1], LW x.2.2 κ2 x.2.2 ρ2 (oP x out))
  refine hR.2.2.2.2.2.1 _ _ _ _ _ _ ?_
  refine hR.run0 (by omega) 2 (S' := (1724, [some (vR 98), some (vR 0), some (vR 100), some (vR 120), some (vI i), some (vI x.1), some (vI (nmI x.2.1))], [vR 100], LW x.2.2 κ2 x.2.2 ρ2 (oP x out))) rfl ?_
  refine hR.cv (by omega) [] kL_127 rfl rfl ⟨_, _, _, rfl, rfl, rfl⟩ (by decide) (Nat.le_of_ble_eq_true rfl) (by decide) rfl (frM hro (sr_thrown _ _)) ?_
  show G (k + 1) (1727, [some (vR 98), some (vR 0), some (vR 100), some (vR 120), some (vI i), some (vI x.1), some (vI (nmI x.2.1))], [vI (ρ2.1 0)], LW x.2.2 κ2 x.2.2 ρ2 (oP x out))
  rw [hth]
  refine hR.run0 (by omega) 1 (S' := (1729, [some (vR 98), some (vR 0), some (vR 100), some (vR 120), some (vI i), some (vI x.1), some (vI (nmI x.2.1))], [vI x.1, vI x.1], LW x.2.2 κ2 x.2.2 ρ2 (oP x out))) rfl ?_
  refine hR.br (by omega) (C := x.1 = x.1) rfl (by omega) (fun _ => ?_) (fun h => absurd rfl h)
  refine hR.run0 (by omega) 1 (S' := (1736, [some (vR 98), some (vR 0), some (vR 100), some (vR 120), some (vI i), some (vI x.1), some (vI (nmI x.2.1))], [vI x.1], LW x.2.2 κ2 x.2.2 ρ2 (oP x out))) rfl ?_
  refine hR.br (by omega) (C := x.1 ≠ 0) rfl (by omega) (fun _ => ?_) (fun h => ?_)
  · skip
    refine hR.run0 (by omega) 1 (S' := (2248, [some (vR 98), some (vR 0), some (vR 100), some (vR 120), some (vI i), some (vI x.1), some (vI (nmI x.2.1))], [], LW x.2.2 κ2 x.2.2 ρ2 (oP x out))) rfl ?_
    refine hR.2.2.2.2.2.2 _ 5 _ _ _ _ ?_
    refine hR.2.2.2.2.2.2 _ 6 _ _ _ _ ?_
    exact kont _ _ _ _ _ (Nat.le_refl _) hJ2
  · have h0 : x.1 = 0 := by omega
    have ho := oP_0 (out := out) h0
    have hnr := nmI_r x.2.1
    refine hR.run1 (by omega) 6 (S' := (1746, [some (vR 98), some (vR 0), some (vR 100), some (vR 120), some (vI i), some (vI x.1), some (vI (nmI x.2.1))], [vI (if nmI x.2.1 < (oP x out) 0 then 1 else if (oP x out) 0 = nmI x.2.1 then 0 else -1)], LW x.2.2 κ2 x.2.2 ρ2 (oP x out))) rfl (by rw [ho]; omega) ?_
    refine hR.br (by omega) (C := (if nmI x.2.1 < (oP x out) 0 then (1 : Int) else if (oP x out) 0 = nmI x.2.1 then 0 else -1) = 0) rfl (by (repeat' split) <;> omega) (fun _ => ?_) (fun h => absurd (lc0.mpr ho) h)
    refine hR.run0 (by omega) 1 (S' := (2248, [some (vR 98), some (vR 0), some (vR 100), some (vR 120), some (vI i), some (vI x.1), some (vI (nmI x.2.1))], [], LW x.2.2 κ2 x.2.2 ρ2 (oP x out))) rfl ?_
    refine hR.2.2.2.2.2.2 _ 5 _ _ _ _ ?_
    refine hR.2.2.2.2.2.2 _ 6 _ _ _ _ ?_
    exact kont _ _ _ _ _ (Nat.le_refl _) hJ2
theorem kS_215 : sLinkW RL 215 mL_trailBySets hhL_trailBySets 3 := ⟨gT_at 823 (by decide +kernel) (by decide +kernel), gT_at 824 (by decide +kernel) (by decide +kernel), gT_at 0 (by decide +kernel) (by decide +kernel), gT_at 825 (by decide +kernel) (by decide +kernel), ⟨by decide +kernel, by decide +kernel, by decide +kernel⟩⟩
theorem kL_217 : vLink RL 217 mX6_trailBySets 1 := ⟨gT_at 1285 (by decide +kernel) (by decide +kernel), wX6_trailBySets⟩
set_option maxHeartbeats 4000000 in
theorem cs_trailBySets {xs : Int → Int} {N : Nat} {G : Nat → PS → Prop} (hR : Rl lkL ((98, N, xs) :: roC) bL_law 100 G) (hx : N ≤ 2048 ∧ ∀ j, -2147483648 ≤ xs j ∧ xs j ≤ 2147483647) {τ κ ρ : St} {out : Int → Int} (hJ : Jv τ κ) {k : Nat} (hk : k < 600) {i : Int} (hi : 0 ≤ i ∧ i + 4 ≤ N) (kont : ∀ (τ κ ρ : St) (out : Int → Int) (j : Nat), j ≤ k + 1 → Jv τ κ → G j (2248, Lh_ i, [], LW τ κ τ ρ out)) : G k (1754, Lh_ i, [], LW τ κ τ ρ out) := by
  have hN := hx.1
  have hxr := hx.2
  have hr1 := hxr (i + 1)
  have hro : ∀ q ∈ roC, q ∈ ((98, N, xs) :: roC : PRO) := fun q hq => List.mem_cons_of_mem _ hq
  have hw := wL_trailBySets τ κ τ ρ out hro hr1 hJ.2.2.1 hJ.2.2.2.1 hJ.1
  have hm := fun (σ κ2 : St) (out2 : Int → Int) => frM (σ := σ) (κ := κ2) (out := out2) hro (pX6_trailBySets τ ρ hr1 hJ.1)
  have hcd := cd_xTrail τ (xs (i + 1))
  have hth : (rTrail τ ρ (xs (i + 1))).1 0 = (xTrail τ (xs (i + 1))).1 := r1_rTrail τ ρ (xs (i + 1))
  have hJ2 := J_trailBySets hJ (xs (i + 1))
  generalize (rTrail τ ρ (xs (i + 1))) = ρ2 at hm hth
  generalize xTrail τ (xs (i + 1)) = x at hw hm hcd hth hJ2
  generalize (kTrail κ τ (xs (i + 1))) = κ2 at hw hJ2
  refine hR.run1 (by omega) 7 (S' := (1762, [some (vR 98), some (vR 0), some (vR 100), some (vR 120), some (vI i), none, none], [vR 120, vI (xs (i + 1)), vR 0], LW τ κ τ ρ out)) rfl (by omega) ?_
  refine hR.cw hk [vR 0, vI (xs (i + 1)), vR 120] kS_215 rfl rfl (by decide) (Nat.le_of_ble_eq_true rfl) (by decide) rfl hw ?_
  refine hR.run1 (by omega) 7 (S' := (1774, [some (vR 98), some (vR 0), some (vR 100), some (vR 120), some (vI i), some (vI x.1), none], [vI (xs (i + 1)), vR 100], LW x.2.2 κ2 τ ρ (oP x out))) rfl (by omega) ?_
  refine hR.cv (by omega) [vI (xs (i + 1))] kL_217 rfl rfl ⟨_, _, _, rfl, rfl, rfl⟩ (by decide) (Nat.le_of_ble_eq_true rfl) (by decide) rfl (hm _ _ _) ?_
  show G (k + 1) (1777, [some (vR 98), some (vR 0), some (vR 100), some (vR 120), some (vI i), some (vI x.1), none], [vI x.2.1], LW x.2.2 κ2 x.2.2 ρ2 (oP x out))
  refine hR.2.2.2.2.2.1 _ _ _ _ _ _ ?_
  refine hR.run0 (by omega) 2 (S' := (1780, [some (vR 98), some (vR 0), some (vR 100), some (vR 120), some (vI i), some (vI x.1), some (vI (nmI x.2.1))], [vR 100], LW x.2.2 κ2 x.2.2 ρ2 (oP x out))) rfl ?_
  refine hR.cv (by omega) [] kL_127 rfl rfl ⟨_, _, _, rfl, rfl, rfl⟩ (by decide) (Nat.le_of_ble_eq_true rfl) (by decide) rfl (frM hro (sr_thrown _ _)) ?_
  show G (k + 1) (1783, [some (vR 98), some (vR 0), some (vR 100), some (vR 120), some (vI i), some (vI x.1), some (vI (nmI x.2.1))], [vI (ρ2.1 0)], LW x.2.2 κ2 x.2.2 ρ2 (oP x out))
  rw [hth]
  refine hR.run0 (by omega) 1 (S' := (1785, [some (vR 98), some (vR 0), some (vR 100), some (vR 120), some (vI i), some (vI x.1), some (vI (nmI x.2.1))], [vI x.1, vI x.1], LW x.2.2 κ2 x.2.2 ρ2 (oP x out))) rfl ?_
  refine hR.br (by omega) (C := x.1 = x.1) rfl (by omega) (fun _ => ?_) (fun h => absurd rfl h)
  refine hR.run0 (by omega) 1 (S' := (1792, [some (vR 98), some (vR 0), some (vR 100), some (vR 120), some (vI i), some (vI x.1), some (vI (nmI x.2.1))], [vI x.1], LW x.2.2 κ2 x.2.2 ρ2 (oP x out))) rfl ?_
  refine hR.br (by omega) (C := x.1 ≠ 0) rfl (by omega) (fun _ => ?_) (fun h => ?_)
  · skip
    refine hR.run0 (by omega) 1 (S' := (2248, [some (vR 98), some (vR 0), some (vR 100), some (vR 120), some (vI i), some (vI x.1), some (vI (nmI x.2.1))], [], LW x.2.2 κ2 x.2.2 ρ2 (oP x out))) rfl ?_
    refine hR.2.2.2.2.2.2 _ 5 _ _ _ _ ?_
    refine hR.2.2.2.2.2.2 _ 6 _ _ _ _ ?_
    exact kont _ _ _ _ _ (Nat.le_refl _) hJ2
  · have h0 : x.1 = 0 := by omega
    have ho := oP_0 (out := out) h0
    have hnr := nmI_r x.2.1
    refine hR.run1 (by omega) 6 (S' := (1802, [some (vR 98), some (vR 0), some (vR 100), some (vR 120), some (vI i), some (vI x.1), some (vI (nmI x.2.1))], [vI (if nmI x.2.1 < (oP x out) 0 then 1 else if (oP x out) 0 = nmI x.2.1 then 0 else -1)], LW x.2.2 κ2 x.2.2 ρ2 (oP x out))) rfl (by rw [ho]; omega) ?_
    refine hR.br (by omega) (C := (if nmI x.2.1 < (oP x out) 0 then (1 : Int) else if (oP x out) 0 = nmI x.2.1 then 0 else -1) = 0) rfl (by (repeat' split) <;> omega) (fun _ => ?_) (fun h => absurd (lc0.mpr ho) h)
    refine hR.run0 (by omega) 1 (S' := (2248, [some (vR 98), some (vR 0), some (vR 100), some (vR 120), some (vI i), some (vI x.1), some (vI (nmI x.2.1))], [], LW x.2.2 κ2 x.2.2 ρ2 (oP x out))) rfl ?_
    refine hR.2.2.2.2.2.2 _ 5 _ _ _ _ ?_
    refine hR.2.2.2.2.2.2 _ 6 _ _ _ _ ?_
    exact kont _ _ _ _ _ (Nat.le_refl _) hJ2
theorem kL_218 : vLink RL 218 mX5_holder 1 := ⟨gT_at 169 (by decide +kernel) (by decide +kernel), wX5_holder⟩
theorem kL_222 : vLink RL 222 mX6_holder 1 := ⟨gT_at 1289 (by decide +kernel) (by decide +kernel), wX6_holder⟩
theorem cs_holder {xs : Int → Int} {N : Nat} {G : Nat → PS → Prop} (hR : Rl lkL ((98, N, xs) :: roC) bL_law 100 G) (hx : N ≤ 2048 ∧ ∀ j, -2147483648 ≤ xs j ∧ xs j ≤ 2147483647) {τ κ ρ : St} {out : Int → Int} (hJ : Jv τ κ) {k : Nat} (hk : k < 600) {i : Int} (hi : 0 ≤ i ∧ i + 4 ≤ N) (kont : ∀ (τ κ ρ : St) (out : Int → Int) (j : Nat), j ≤ k + 1 → Jv τ κ → G j (2248, Lh_ i, [], LW τ κ τ ρ out)) : G k (1810, Lh_ i, [], LW τ κ τ ρ out) := by
  have hN := hx.1
  have hxr := hx.2
  have hr1 := hxr (i + 1)
  have hro : ∀ q ∈ roC, q ∈ ((98, N, xs) :: roC : PRO) := fun q hq => List.mem_cons_of_mem _ hq
  have hrg := hJ.1.hth
  have hrg2 := hJ.1.har
  have h1 : ∀ b : Int, b = 0 ∨ b = 1 → Sp mX5_holder ((98, N, xs) :: roC) 1 [vR 0, vI b] (LW τ κ τ ρ out) (.inl (some (vI (if b = 0 then τ.1 4 else τ.1 8)))) (LW τ κ τ ρ out) := fun b hb => frC hro (pX5_holder τ κ hb hJ.1)
  have h2 : ∀ b : Int, b = 0 ∨ b = 1 → Sp mX6_holder ((98, N, xs) :: roC) 0 [vR 100, vI b] (LW τ κ τ ρ out) (.inl (some (vI (if b = 0 then τ.1 4 else τ.1 8)))) (LW τ κ τ (sS ρ 0 0) out) := fun b hb => frM hro (pX6_holder τ ρ hb hJ.1)
  refine hR.run1 (by omega) 6 (S' := (1817, [some (vR 98), some (vR 0), some (vR 100), some (vR 120), some (vI i), none, none], [vI (xs (i + 1)), vR 0], LW τ κ τ ρ out)) rfl (by omega) ?_
  refine hR.br (by omega) (C := xs (i + 1) = 0) rfl (by omega) (fun hz => ?_) (fun hz => ?_)
  · refine hR.run0 (by omega) 1 (S' := (1825, [some (vR 98), some (vR 0), some (vR 100), some (vR 120), some (vI i), none, none], [vI 0, vR 0], LW τ κ τ ρ out)) rfl ?_
    refine hR.cv (by omega) [vI 0] kL_218 rfl rfl ⟨_, _, _, rfl, rfl, rfl⟩ (by decide) (Nat.le_of_ble_eq_true rfl) (by decide) rfl (h1 0 (by omega)) ?_
    refine hR.run1 (by omega) 6 (S' := (1835, [some (vR 98), some (vR 0), some (vR 100), some (vR 120), some (vI i), none, none], [vI (xs (i + 1)), vR 100, vI (τ.1 4)], LW τ κ τ ρ out)) rfl (by omega) ?_
    refine hR.br (by omega) (C := xs (i + 1) = 0) rfl (by omega) (fun hy => ?_) (fun hy => ?_)
    · refine hR.run0 (by omega) 1 (S' := (1843, [some (vR 98), some (vR 0), some (vR 100), some (vR 120), some (vI i), none, none], [vI 0, vR 100, vI (τ.1 4)], LW τ κ τ ρ out)) rfl ?_
      refine hR.cv (by omega) [vI 0] kL_222 rfl rfl ⟨_, _, _, rfl, rfl, rfl⟩ (by decide) (Nat.le_of_ble_eq_true rfl) (by decide) rfl (h2 0 (by omega)) ?_
      refine hR.br (by omega) (C := τ.1 4 = τ.1 4) rfl (by show (_ ∧ _) ∧ _; omega) (fun _ => ?_) (fun h => absurd rfl h)
      exact kont _ _ _ _ _ (Nat.le_succ _) hJ
    · exfalso; omega
  · refine hR.run0 (by omega) 2 (S' := (1825, [some (vR 98), some (vR 0), some (vR 100), some (vR 120), some (vI i), none, none], [vI 1, vR 0], LW τ κ τ ρ out)) rfl ?_
    refine hR.cv (by omega) [vI 1] kL_218 rfl rfl ⟨_, _, _, rfl, rfl, rfl⟩ (by decide) (Nat.le_of_ble_eq_true rfl) (by decide) rfl (h1 1 (by omega)) ?_
    refine hR.run1 (by omega) 6 (S' := (1835, [some (vR 98), some (vR 0), some (vR 100), some (vR 120), some (vI i), none, none], [vI (xs (i + 1)), vR 100, vI (τ.1 8)], LW τ κ τ ρ out)) rfl (by omega) ?_
    refine hR.br (by omega) (C := xs (i + 1) = 0) rfl (by omega) (fun hy => ?_) (fun hy => ?_)
    · exfalso; omega
    · refine hR.run0 (by omega) 2 (S' := (1843, [some (vR 98), some (vR 0), some (vR 100), some (vR 120), some (vI i), none, none], [vI 1, vR 100, vI (τ.1 8)], LW τ κ τ ρ out)) rfl ?_
      refine hR.cv (by omega) [vI 1] kL_222 rfl rfl ⟨_, _, _, rfl, rfl, rfl⟩ (by decide) (Nat.le_of_ble_eq_true rfl) (by decide) rfl (h2 1 (by omega)) ?_
      refine hR.br (by omega) (C := τ.1 8 = τ.1 8) rfl (by show (_ ∧ _) ∧ _; omega) (fun _ => ?_) (fun h => absurd rfl h)
      exact kont _ _ _ _ _ (Nat.le_succ _) hJ
theorem kS_223 : sLinkW RL 223 mL_knights hhL_knights 3 := ⟨gT_at 858 (by decide +kernel) (by decide +kernel), gT_at 859 (by decide +kernel) (by decide +kernel), gT_at 0 (by decide +kernel) (by decide +kernel), gT_at 860 (by decide +kernel) (by decide +kernel), ⟨by decide +kernel, by decide +kernel, by decide +kernel⟩⟩
theorem kL_225 : vLink RL 225 mX6_knights 1 := ⟨gT_at 1293 (by decide +kernel) (by decide +kernel), wX6_knights⟩
set_option maxHeartbeats 4000000 in
theorem cs_knights {xs : Int → Int} {N : Nat} {G : Nat → PS → Prop} (hR : Rl lkL ((98, N, xs) :: roC) bL_law 100 G) (hx : N ≤ 2048 ∧ ∀ j, -2147483648 ≤ xs j ∧ xs j ≤ 2147483647) {τ κ ρ : St} {out : Int → Int} (hJ : Jv τ κ) {k : Nat} (hk : k < 600) {i : Int} (hi : 0 ≤ i ∧ i + 4 ≤ N) (kont : ∀ (τ κ ρ : St) (out : Int → Int) (j : Nat), j ≤ k + 1 → Jv τ κ → G j (2248, Lh_ i, [], LW τ κ τ ρ out)) : G k (1851, Lh_ i, [], LW τ κ τ ρ out) := by
  have hN := hx.1
  have hxr := hx.2
  have hr1 := hxr (i + 1)
  have hro : ∀ q ∈ roC, q ∈ ((98, N, xs) :: roC : PRO) := fun q hq => List.mem_cons_of_mem _ hq
  have hw := wL_knights τ κ τ ρ out hro hr1 hJ.1
  have hm := fun (σ κ2 : St) (out2 : Int → Int) => frM (σ := σ) (κ := κ2) (out := out2) hro (pX6_knights τ ρ hr1 hJ.1)
  have hcd := cd_xKnights τ (xs (i + 1))
  have hth : (sS ρ 0 (xKnights τ (xs (i + 1))).1).1 0 = (xKnights τ (xs (i + 1))).1 := rfl
  have hJ2 := J_knights hJ (xs (i + 1))
  generalize (sS ρ 0 (xKnights τ (xs (i + 1))).1) = ρ2 at hm hth
  generalize xKnights τ (xs (i + 1)) = x at hw hm hcd hth hJ2
  refine hR.run1 (by omega) 7 (S' := (1859, [some (vR 98), some (vR 0), some (vR 100), some (vR 120), some (vI i), none, none], [vR 120, vI (xs (i + 1)), vR 0], LW τ κ τ ρ out)) rfl (by omega) ?_
  refine hR.cw hk [vR 0, vI (xs (i + 1)), vR 120] kS_223 rfl rfl (by decide) (Nat.le_of_ble_eq_true rfl) (by decide) rfl hw ?_
  refine hR.run1 (by omega) 7 (S' := (1871, [some (vR 98), some (vR 0), some (vR 100), some (vR 120), some (vI i), some (vI x.1), none], [vI (xs (i + 1)), vR 100], LW x.2.2 κ τ ρ (oP x out))) rfl (by omega) ?_
  refine hR.cv (by omega) [vI (xs (i + 1))] kL_225 rfl rfl ⟨_, _, _, rfl, rfl, rfl⟩ (by decide) (Nat.le_of_ble_eq_true rfl) (by decide) rfl (hm _ _ _) ?_
  show G (k + 1) (1874, [some (vR 98), some (vR 0), some (vR 100), some (vR 120), some (vI i), some (vI x.1), none], [vI x.2.1], LW x.2.2 κ x.2.2 ρ2 (oP x out))
  refine hR.2.2.2.2.2.1 _ _ _ _ _ _ ?_
  refine hR.run0 (by omega) 2 (S' := (1877, [some (vR 98), some (vR 0), some (vR 100), some (vR 120), some (vI i), some (vI x.1), some (vI (nmI x.2.1))], [vR 100], LW x.2.2 κ x.2.2 ρ2 (oP x out))) rfl ?_
  refine hR.cv (by omega) [] kL_127 rfl rfl ⟨_, _, _, rfl, rfl, rfl⟩ (by decide) (Nat.le_of_ble_eq_true rfl) (by decide) rfl (frM hro (sr_thrown _ _)) ?_
  show G (k + 1) (1880, [some (vR 98), some (vR 0), some (vR 100), some (vR 120), some (vI i), some (vI x.1), some (vI (nmI x.2.1))], [vI (ρ2.1 0)], LW x.2.2 κ x.2.2 ρ2 (oP x out))
  rw [hth]
  refine hR.run0 (by omega) 1 (S' := (1882, [some (vR 98), some (vR 0), some (vR 100), some (vR 120), some (vI i), some (vI x.1), some (vI (nmI x.2.1))], [vI x.1, vI x.1], LW x.2.2 κ x.2.2 ρ2 (oP x out))) rfl ?_
  refine hR.br (by omega) (C := x.1 = x.1) rfl (by omega) (fun _ => ?_) (fun h => absurd rfl h)
  refine hR.run0 (by omega) 1 (S' := (1889, [some (vR 98), some (vR 0), some (vR 100), some (vR 120), some (vI i), some (vI x.1), some (vI (nmI x.2.1))], [vI x.1], LW x.2.2 κ x.2.2 ρ2 (oP x out))) rfl ?_
  refine hR.br (by omega) (C := x.1 ≠ 0) rfl (by omega) (fun _ => ?_) (fun h => ?_)
  · skip
    refine hR.run0 (by omega) 1 (S' := (2248, [some (vR 98), some (vR 0), some (vR 100), some (vR 120), some (vI i), some (vI x.1), some (vI (nmI x.2.1))], [], LW x.2.2 κ x.2.2 ρ2 (oP x out))) rfl ?_
    refine hR.2.2.2.2.2.2 _ 5 _ _ _ _ ?_
    refine hR.2.2.2.2.2.2 _ 6 _ _ _ _ ?_
    exact kont _ _ _ _ _ (Nat.le_refl _) hJ2
  · have h0 : x.1 = 0 := by omega
    have ho := oP_0 (out := out) h0
    have hnr := nmI_r x.2.1
    refine hR.run1 (by omega) 6 (S' := (1899, [some (vR 98), some (vR 0), some (vR 100), some (vR 120), some (vI i), some (vI x.1), some (vI (nmI x.2.1))], [vI (if nmI x.2.1 < (oP x out) 0 then 1 else if (oP x out) 0 = nmI x.2.1 then 0 else -1)], LW x.2.2 κ x.2.2 ρ2 (oP x out))) rfl (by rw [ho]; omega) ?_
    refine hR.br (by omega) (C := (if nmI x.2.1 < (oP x out) 0 then (1 : Int) else if (oP x out) 0 = nmI x.2.1 then 0 else -1) = 0) rfl (by (repeat' split) <;> omega) (fun _ => ?_) (fun h => absurd (lc0.mpr ho) h)
    refine hR.run0 (by omega) 1 (S' := (2248, [some (vR 98), some (vR 0), some (vR 100), some (vR 120), some (vI i), some (vI x.1), some (vI (nmI x.2.1))], [], LW x.2.2 κ x.2.2 ρ2 (oP x out))) rfl ?_
    refine hR.2.2.2.2.2.2 _ 5 _ _ _ _ ?_
    refine hR.2.2.2.2.2.2 _ 6 _ _ _ _ ?_
    exact kont _ _ _ _ _ (Nat.le_refl _) hJ2
theorem kS_226 : sLinkW RL 226 mL_cards hhL_cards 4 := ⟨gT_at 866 (by decide +kernel) (by decide +kernel), gT_at 867 (by decide +kernel) (by decide +kernel), gT_at 0 (by decide +kernel) (by decide +kernel), gT_at 868 (by decide +kernel) (by decide +kernel), ⟨by decide +kernel, by decide +kernel, by decide +kernel⟩⟩
theorem kL_228 : vLink RL 228 mX6_cards 2 := ⟨gT_at 1297 (by decide +kernel) (by decide +kernel), wX6_cards⟩
set_option maxHeartbeats 4000000 in
theorem cs_cards {xs : Int → Int} {N : Nat} {G : Nat → PS → Prop} (hR : Rl lkL ((98, N, xs) :: roC) bL_law 100 G) (hx : N ≤ 2048 ∧ ∀ j, -2147483648 ≤ xs j ∧ xs j ≤ 2147483647) {τ κ ρ : St} {out : Int → Int} (hJ : Jv τ κ) {k : Nat} (hk : k < 600) {i : Int} (hi : 0 ≤ i ∧ i + 4 ≤ N) (kont : ∀ (τ κ ρ : St) (out : Int → Int) (j : Nat), j ≤ k + 1 → Jv τ κ → G j (2248, Lh_ i, [], LW τ κ τ ρ out)) : G k (1907, Lh_ i, [], LW τ κ τ ρ out) := by
  have hN := hx.1
  have hxr := hx.2
  have hr1 := hxr (i + 1)
  have hr2 := hxr (i + 2)
  have hro : ∀ q ∈ roC, q ∈ ((98, N, xs) :: roC : PRO) := fun q hq => List.mem_cons_of_mem _ hq
  have hw := wL_cards τ κ τ ρ out hro hr1 hr2 hJ.1
  have hm := fun (σ κ2 : St) (out2 : Int → Int) => frM (σ := σ) (κ := κ2) (out := out2) hro (pX6_cards τ ρ hr1 hr2 hJ.1)
  have hcd := cd_xCards τ (xs (i + 1)) (xs (i + 2))
  have hth : (sS ρ 0 (xCards τ (xs (i + 1)) (xs (i + 2))).1).1 0 = (xCards τ (xs (i + 1)) (xs (i + 2))).1 := rfl
  have hJ2 := J_cards hJ (xs (i + 1)) (xs (i + 2))
  generalize (sS ρ 0 (xCards τ (xs (i + 1)) (xs (i + 2))).1) = ρ2 at hm hth
  generalize xCards τ (xs (i + 1)) (xs (i + 2)) = x at hw hm hcd hth hJ2
  refine hR.run1 (by omega) 12 (S' := (1921, [some (vR 98), some (vR 0), some (vR 100), some (vR 120), some (vI i), none, none], [vR 120, vI (xs (i + 2)), vI (xs (i + 1)), vR 0], LW τ κ τ ρ out)) rfl (by omega) ?_
  refine hR.cw hk [vR 0, vI (xs (i + 1)), vI (xs (i + 2)), vR 120] kS_226 rfl rfl (by decide) (Nat.le_of_ble_eq_true rfl) (by decide) rfl hw ?_
  refine hR.run1 (by omega) 12 (S' := (1939, [some (vR 98), some (vR 0), some (vR 100), some (vR 120), some (vI i), some (vI x.1), none], [vI (xs (i + 2)), vI (xs (i + 1)), vR 100], LW x.2.2 κ τ ρ (oP x out))) rfl (by omega) ?_
  refine hR.cv (by omega) [vI (xs (i + 1)), vI (xs (i + 2))] kL_228 rfl rfl ⟨_, _, _, rfl, rfl, rfl⟩ (by decide) (Nat.le_of_ble_eq_true rfl) (by decide) rfl (hm _ _ _) ?_
  show G (k + 1) (1942, [some (vR 98), some (vR 0), some (vR 100), some (vR 120), some (vI i), some (vI x.1), none], [vI x.2.1], LW x.2.2 κ x.2.2 ρ2 (oP x out))
  refine hR.2.2.2.2.2.1 _ _ _ _ _ _ ?_
  refine hR.run0 (by omega) 2 (S' := (1945, [some (vR 98), some (vR 0), some (vR 100), some (vR 120), some (vI i), some (vI x.1), some (vI (nmI x.2.1))], [vR 100], LW x.2.2 κ x.2.2 ρ2 (oP x out))) rfl ?_
  refine hR.cv (by omega) [] kL_127 rfl rfl ⟨_, _, _, rfl, rfl, rfl⟩ (by decide) (Nat.le_of_ble_eq_true rfl) (by decide) rfl (frM hro (sr_thrown _ _)) ?_
  show G (k + 1) (1948, [some (vR 98), some (vR 0), some (vR 100), some (vR 120), some (vI i), some (vI x.1), some (vI (nmI x.2.1))], [vI (ρ2.1 0)], LW x.2.2 κ x.2.2 ρ2 (oP x out))
  rw [hth]
  refine hR.run0 (by omega) 1 (S' := (1950, [some (vR 98), some (vR 0), some (vR 100), some (vR 120), some (vI i), some (vI x.1), some (vI (nmI x.2.1))], [vI x.1, vI x.1], LW x.2.2 κ x.2.2 ρ2 (oP x out))) rfl ?_
  refine hR.br (by omega) (C := x.1 = x.1) rfl (by omega) (fun _ => ?_) (fun h => absurd rfl h)
  refine hR.run0 (by omega) 1 (S' := (1957, [some (vR 98), some (vR 0), some (vR 100), some (vR 120), some (vI i), some (vI x.1), some (vI (nmI x.2.1))], [vI x.1], LW x.2.2 κ x.2.2 ρ2 (oP x out))) rfl ?_
  refine hR.br (by omega) (C := x.1 ≠ 0) rfl (by omega) (fun _ => ?_) (fun h => ?_)
  · skip
    refine hR.run0 (by omega) 1 (S' := (2248, [some (vR 98), some (vR 0), some (vR 100), some (vR 120), some (vI i), some (vI x.1), some (vI (nmI x.2.1))], [], LW x.2.2 κ x.2.2 ρ2 (oP x out))) rfl ?_
    refine hR.2.2.2.2.2.2 _ 5 _ _ _ _ ?_
    refine hR.2.2.2.2.2.2 _ 6 _ _ _ _ ?_
    exact kont _ _ _ _ _ (Nat.le_refl _) hJ2
  · have h0 : x.1 = 0 := by omega
    have ho := oP_0 (out := out) h0
    have hnr := nmI_r x.2.1
    refine hR.run1 (by omega) 6 (S' := (1967, [some (vR 98), some (vR 0), some (vR 100), some (vR 120), some (vI i), some (vI x.1), some (vI (nmI x.2.1))], [vI (if nmI x.2.1 < (oP x out) 0 then 1 else if (oP x out) 0 = nmI x.2.1 then 0 else -1)], LW x.2.2 κ x.2.2 ρ2 (oP x out))) rfl (by rw [ho]; omega) ?_
    refine hR.br (by omega) (C := (if nmI x.2.1 < (oP x out) 0 then (1 : Int) else if (oP x out) 0 = nmI x.2.1 then 0 else -1) = 0) rfl (by (repeat' split) <;> omega) (fun _ => ?_) (fun h => absurd (lc0.mpr ho) h)
    refine hR.run0 (by omega) 1 (S' := (2248, [some (vR 98), some (vR 0), some (vR 100), some (vR 120), some (vI i), some (vI x.1), some (vI (nmI x.2.1))], [], LW x.2.2 κ x.2.2 ρ2 (oP x out))) rfl ?_
    refine hR.2.2.2.2.2.2 _ 5 _ _ _ _ ?_
    refine hR.2.2.2.2.2.2 _ 6 _ _ _ _ ?_
    exact kont _ _ _ _ _ (Nat.le_refl _) hJ2
theorem kS_229 : sLinkW RL 229 mL_buildingAt hhL_buildingAt 3 := ⟨gT_at 874 (by decide +kernel) (by decide +kernel), gT_at 875 (by decide +kernel) (by decide +kernel), gT_at 0 (by decide +kernel) (by decide +kernel), gT_at 876 (by decide +kernel) (by decide +kernel), ⟨by decide +kernel, by decide +kernel, by decide +kernel⟩⟩
theorem kL_231 : vLink RL 231 mX6_buildingAt 1 := ⟨gT_at 1301 (by decide +kernel) (by decide +kernel), wX6_buildingAt⟩
set_option maxHeartbeats 4000000 in
theorem cs_buildingAt {xs : Int → Int} {N : Nat} {G : Nat → PS → Prop} (hR : Rl lkL ((98, N, xs) :: roC) bL_law 100 G) (hx : N ≤ 2048 ∧ ∀ j, -2147483648 ≤ xs j ∧ xs j ≤ 2147483647) {τ κ ρ : St} {out : Int → Int} (hJ : Jv τ κ) {k : Nat} (hk : k < 600) {i : Int} (hi : 0 ≤ i ∧ i + 4 ≤ N) (kont : ∀ (τ κ ρ : St) (out : Int → Int) (j : Nat), j ≤ k + 1 → Jv τ κ → G j (2248, Lh_ i, [], LW τ κ τ ρ out)) : G k (1975, Lh_ i, [], LW τ κ τ ρ out) := by
  have hN := hx.1
  have hxr := hx.2
  have hr1 := hxr (i + 1)
  have hro : ∀ q ∈ roC, q ∈ ((98, N, xs) :: roC : PRO) := fun q hq => List.mem_cons_of_mem _ hq
  have hw := wL_buildingAt τ κ τ ρ out hro hr1 hJ.1
  have hm := fun (σ κ2 : St) (out2 : Int → Int) => frM (σ := σ) (κ := κ2) (out := out2) hro (pX6_buildingAt τ ρ hr1 hJ.1)
  have hcd := cd_xBuilding τ (xs (i + 1))
  have hth : (sS ρ 0 (xBuilding τ (xs (i + 1))).1).1 0 = (xBuilding τ (xs (i + 1))).1 := rfl
  have hJ2 := J_buildingAt hJ (xs (i + 1))
  generalize (sS ρ 0 (xBuilding τ (xs (i + 1))).1) = ρ2 at hm hth
  generalize xBuilding τ (xs (i + 1)) = x at hw hm hcd hth hJ2
  refine hR.run1 (by omega) 7 (S' := (1983, [some (vR 98), some (vR 0), some (vR 100), some (vR 120), some (vI i), none, none], [vR 120, vI (xs (i + 1)), vR 0], LW τ κ τ ρ out)) rfl (by omega) ?_
  refine hR.cw hk [vR 0, vI (xs (i + 1)), vR 120] kS_229 rfl rfl (by decide) (Nat.le_of_ble_eq_true rfl) (by decide) rfl hw ?_
  refine hR.run1 (by omega) 7 (S' := (1995, [some (vR 98), some (vR 0), some (vR 100), some (vR 120), some (vI i), some (vI x.1), none], [vI (xs (i + 1)), vR 100], LW x.2.2 κ τ ρ (oP x out))) rfl (by omega) ?_
  refine hR.cv (by omega) [vI (xs (i + 1))] kL_231 rfl rfl ⟨_, _, _, rfl, rfl, rfl⟩ (by decide) (Nat.le_of_ble_eq_true rfl) (by decide) rfl (hm _ _ _) ?_
  show G (k + 1) (1998, [some (vR 98), some (vR 0), some (vR 100), some (vR 120), some (vI i), some (vI x.1), none], [vI x.2.1], LW x.2.2 κ x.2.2 ρ2 (oP x out))
  refine hR.2.2.2.2.2.1 _ _ _ _ _ _ ?_
  refine hR.run0 (by omega) 2 (S' := (2001, [some (vR 98), some (vR 0), some (vR 100), some (vR 120), some (vI i), some (vI x.1), some (vI (nmI x.2.1))], [vR 100], LW x.2.2 κ x.2.2 ρ2 (oP x out))) rfl ?_
  refine hR.cv (by omega) [] kL_127 rfl rfl ⟨_, _, _, rfl, rfl, rfl⟩ (by decide) (Nat.le_of_ble_eq_true rfl) (by decide) rfl (frM hro (sr_thrown _ _)) ?_
  show G (k + 1) (2004, [some (vR 98), some (vR 0), some (vR 100), some (vR 120), some (vI i), some (vI x.1), some (vI (nmI x.2.1))], [vI (ρ2.1 0)], LW x.2.2 κ x.2.2 ρ2 (oP x out))
  rw [hth]
  refine hR.run0 (by omega) 1 (S' := (2006, [some (vR 98), some (vR 0), some (vR 100), some (vR 120), some (vI i), some (vI x.1), some (vI (nmI x.2.1))], [vI x.1, vI x.1], LW x.2.2 κ x.2.2 ρ2 (oP x out))) rfl ?_
  refine hR.br (by omega) (C := x.1 = x.1) rfl (by omega) (fun _ => ?_) (fun h => absurd rfl h)
  refine hR.run0 (by omega) 1 (S' := (2013, [some (vR 98), some (vR 0), some (vR 100), some (vR 120), some (vI i), some (vI x.1), some (vI (nmI x.2.1))], [vI x.1], LW x.2.2 κ x.2.2 ρ2 (oP x out))) rfl ?_
  refine hR.br (by omega) (C := x.1 ≠ 0) rfl (by omega) (fun _ => ?_) (fun h => ?_)
  · skip
    refine hR.run0 (by omega) 1 (S' := (2248, [some (vR 98), some (vR 0), some (vR 100), some (vR 120), some (vI i), some (vI x.1), some (vI (nmI x.2.1))], [], LW x.2.2 κ x.2.2 ρ2 (oP x out))) rfl ?_
    refine hR.2.2.2.2.2.2 _ 5 _ _ _ _ ?_
    refine hR.2.2.2.2.2.2 _ 6 _ _ _ _ ?_
    exact kont _ _ _ _ _ (Nat.le_refl _) hJ2
  · have h0 : x.1 = 0 := by omega
    have ho := oP_0 (out := out) h0
    have hnr := nmI_r x.2.1
    refine hR.run1 (by omega) 6 (S' := (2023, [some (vR 98), some (vR 0), some (vR 100), some (vR 120), some (vI i), some (vI x.1), some (vI (nmI x.2.1))], [vI (if nmI x.2.1 < (oP x out) 0 then 1 else if (oP x out) 0 = nmI x.2.1 then 0 else -1)], LW x.2.2 κ x.2.2 ρ2 (oP x out))) rfl (by rw [ho]; omega) ?_
    refine hR.br (by omega) (C := (if nmI x.2.1 < (oP x out) 0 then (1 : Int) else if (oP x out) 0 = nmI x.2.1 then 0 else -1) = 0) rfl (by (repeat' split) <;> omega) (fun _ => ?_) (fun h => absurd (lc0.mpr ho) h)
    refine hR.run0 (by omega) 1 (S' := (2248, [some (vR 98), some (vR 0), some (vR 100), some (vR 120), some (vI i), some (vI x.1), some (vI (nmI x.2.1))], [], LW x.2.2 κ x.2.2 ρ2 (oP x out))) rfl ?_
    refine hR.2.2.2.2.2.2 _ 5 _ _ _ _ ?_
    refine hR.2.2.2.2.2.2 _ 6 _ _ _ _ ?_
    exact kont _ _ _ _ _ (Nat.le_refl _) hJ2
theorem kS_232 : sLinkW RL 232 mL_roadAt hhL_roadAt 3 := ⟨gT_at 881 (by decide +kernel) (by decide +kernel), gT_at 882 (by decide +kernel) (by decide +kernel), gT_at 0 (by decide +kernel) (by decide +kernel), gT_at 883 (by decide +kernel) (by decide +kernel), ⟨by decide +kernel, by decide +kernel, by decide +kernel⟩⟩
theorem kL_234 : vLink RL 234 mX6_roadAt 1 := ⟨gT_at 1305 (by decide +kernel) (by decide +kernel), wX6_roadAt⟩
set_option maxHeartbeats 4000000 in
theorem cs_roadAt {xs : Int → Int} {N : Nat} {G : Nat → PS → Prop} (hR : Rl lkL ((98, N, xs) :: roC) bL_law 100 G) (hx : N ≤ 2048 ∧ ∀ j, -2147483648 ≤ xs j ∧ xs j ≤ 2147483647) {τ κ ρ : St} {out : Int → Int} (hJ : Jv τ κ) {k : Nat} (hk : k < 600) {i : Int} (hi : 0 ≤ i ∧ i + 4 ≤ N) (kont : ∀ (τ κ ρ : St) (out : Int → Int) (j : Nat), j ≤ k + 1 → Jv τ κ → G j (2248, Lh_ i, [], LW τ κ τ ρ out)) : G k (2031, Lh_ i, [], LW τ κ τ ρ out) := by
  have hN := hx.1
  have hxr := hx.2
  have hr1 := hxr (i + 1)
  have hro : ∀ q ∈ roC, q ∈ ((98, N, xs) :: roC : PRO) := fun q hq => List.mem_cons_of_mem _ hq
  have hw := wL_roadAt τ κ τ ρ out hro hr1 hJ.1
  have hm := fun (σ κ2 : St) (out2 : Int → Int) => frM (σ := σ) (κ := κ2) (out := out2) hro (pX6_roadAt τ ρ hr1 hJ.1)
  have hcd := cd_xRoadAt τ (xs (i + 1))
  have hth : (sS ρ 0 (xRoadAt τ (xs (i + 1))).1).1 0 = (xRoadAt τ (xs (i + 1))).1 := rfl
  have hJ2 := J_roadAt hJ (xs (i + 1))
  generalize (sS ρ 0 (xRoadAt τ (xs (i + 1))).1) = ρ2 at hm hth
  generalize xRoadAt τ (xs (i + 1)) = x at hw hm hcd hth hJ2
  refine hR.run1 (by omega) 7 (S' := (2039, [some (vR 98), some (vR 0), some (vR 100), some (vR 120), some (vI i), none, none], [vR 120, vI (xs (i + 1)), vR 0], LW τ κ τ ρ out)) rfl (by omega) ?_
  refine hR.cw hk [vR 0, vI (xs (i + 1)), vR 120] kS_232 rfl rfl (by decide) (Nat.le_of_ble_eq_true rfl) (by decide) rfl hw ?_
  refine hR.run1 (by omega) 7 (S' := (2051, [some (vR 98), some (vR 0), some (vR 100), some (vR 120), some (vI i), some (vI x.1), none], [vI (xs (i + 1)), vR 100], LW x.2.2 κ τ ρ (oP x out))) rfl (by omega) ?_
  refine hR.cv (by omega) [vI (xs (i + 1))] kL_234 rfl rfl ⟨_, _, _, rfl, rfl, rfl⟩ (by decide) (Nat.le_of_ble_eq_true rfl) (by decide) rfl (hm _ _ _) ?_
  show G (k + 1) (2054, [some (vR 98), some (vR 0), some (vR 100), some (vR 120), some (vI i), some (vI x.1), none], [vI x.2.1], LW x.2.2 κ x.2.2 ρ2 (oP x out))
  refine hR.2.2.2.2.2.1 _ _ _ _ _ _ ?_
  refine hR.run0 (by omega) 2 (S' := (2057, [some (vR 98), some (vR 0), some (vR 100), some (vR 120), some (vI i), some (vI x.1), some (vI (nmI x.2.1))], [vR 100], LW x.2.2 κ x.2.2 ρ2 (oP x out))) rfl ?_
  refine hR.cv (by omega) [] kL_127 rfl rfl ⟨_, _, _, rfl, rfl, rfl⟩ (by decide) (Nat.le_of_ble_eq_true rfl) (by decide) rfl (frM hro (sr_thrown _ _)) ?_
  show G (k + 1) (2060, [some (vR 98), some (vR 0), some (vR 100), some (vR 120), some (vI i), some (vI x.1), some (vI (nmI x.2.1))], [vI (ρ2.1 0)], LW x.2.2 κ x.2.2 ρ2 (oP x out))
  rw [hth]
  refine hR.run0 (by omega) 1 (S' := (2062, [some (vR 98), some (vR 0), some (vR 100), some (vR 120), some (vI i), some (vI x.1), some (vI (nmI x.2.1))], [vI x.1, vI x.1], LW x.2.2 κ x.2.2 ρ2 (oP x out))) rfl ?_
  refine hR.br (by omega) (C := x.1 = x.1) rfl (by omega) (fun _ => ?_) (fun h => absurd rfl h)
  refine hR.run0 (by omega) 1 (S' := (2069, [some (vR 98), some (vR 0), some (vR 100), some (vR 120), some (vI i), some (vI x.1), some (vI (nmI x.2.1))], [vI x.1], LW x.2.2 κ x.2.2 ρ2 (oP x out))) rfl ?_
  refine hR.br (by omega) (C := x.1 ≠ 0) rfl (by omega) (fun _ => ?_) (fun h => ?_)
  · skip
    refine hR.run0 (by omega) 1 (S' := (2248, [some (vR 98), some (vR 0), some (vR 100), some (vR 120), some (vI i), some (vI x.1), some (vI (nmI x.2.1))], [], LW x.2.2 κ x.2.2 ρ2 (oP x out))) rfl ?_
    refine hR.2.2.2.2.2.2 _ 5 _ _ _ _ ?_
    refine hR.2.2.2.2.2.2 _ 6 _ _ _ _ ?_
    exact kont _ _ _ _ _ (Nat.le_refl _) hJ2
  · have h0 : x.1 = 0 := by omega
    have ho := oP_0 (out := out) h0
    have hnr := nmI_r x.2.1
    refine hR.run1 (by omega) 6 (S' := (2079, [some (vR 98), some (vR 0), some (vR 100), some (vR 120), some (vI i), some (vI x.1), some (vI (nmI x.2.1))], [vI (if nmI x.2.1 < (oP x out) 0 then 1 else if (oP x out) 0 = nmI x.2.1 then 0 else -1)], LW x.2.2 κ x.2.2 ρ2 (oP x out))) rfl (by rw [ho]; omega) ?_
    refine hR.br (by omega) (C := (if nmI x.2.1 < (oP x out) 0 then (1 : Int) else if (oP x out) 0 = nmI x.2.1 then 0 else -1) = 0) rfl (by (repeat' split) <;> omega) (fun _ => ?_) (fun h => absurd (lc0.mpr ho) h)
    refine hR.run0 (by omega) 1 (S' := (2248, [some (vR 98), some (vR 0), some (vR 100), some (vR 120), some (vI i), some (vI x.1), some (vI (nmI x.2.1))], [], LW x.2.2 κ x.2.2 ρ2 (oP x out))) rfl ?_
    refine hR.2.2.2.2.2.2 _ 5 _ _ _ _ ?_
    refine hR.2.2.2.2.2.2 _ 6 _ _ _ _ ?_
    exact kont _ _ _ _ _ (Nat.le_refl _) hJ2
theorem kL_235 : vLink RL 235 mX5_robber 0 := ⟨gT_at 177 (by decide +kernel) (by decide +kernel), wX5_robber⟩
theorem kL_238 : vLink RL 238 mX6_robber 0 := ⟨gT_at 1309 (by decide +kernel) (by decide +kernel), wX6_robber⟩
theorem cs_robber {xs : Int → Int} {N : Nat} {G : Nat → PS → Prop} (hR : Rl lkL ((98, N, xs) :: roC) bL_law 100 G) (hx : N ≤ 2048 ∧ ∀ j, -2147483648 ≤ xs j ∧ xs j ≤ 2147483647) {τ κ ρ : St} {out : Int → Int} (hJ : Jv τ κ) {k : Nat} (hk : k < 600) {i : Int} (hi : 0 ≤ i ∧ i + 4 ≤ N) (kont : ∀ (τ κ ρ : St) (out : Int → Int) (j : Nat), j ≤ k + 1 → Jv τ κ → G j (2248, Lh_ i, [], LW τ κ τ ρ out)) : G k (2087, Lh_ i, [], LW τ κ τ ρ out) := by
  have hro : ∀ q ∈ roC, q ∈ ((98, N, xs) :: roC : PRO) := fun q hq => List.mem_cons_of_mem _ hq
  have hrg := hJ.1.hrb
  have h1 : Sp mX5_robber ((98, N, xs) :: roC) 1 [vR 0] (LW τ κ τ ρ out) (.inl (some (vI (τ.1 5)))) (LW τ κ τ ρ out) := frC hro (pX5_robber τ κ hJ.1)
  have h2 : Sp mX6_robber ((98, N, xs) :: roC) 0 [vR 100] (LW τ κ τ ρ out) (.inl (some (vI (τ.1 5)))) (LW τ κ τ (sS ρ 0 0) out) := frM hro (pX6_robber τ ρ hJ.1)
  refine hR.run0 (by omega) 1 (S' := (2088, [some (vR 98), some (vR 0), some (vR 100), some (vR 120), some (vI i), none, none], [vR 0], LW τ κ τ ρ out)) rfl ?_
  refine hR.cv (by omega) [] kL_235 rfl rfl ⟨_, _, _, rfl, rfl, rfl⟩ (by decide) (Nat.le_of_ble_eq_true rfl) (by decide) rfl h1 ?_
  refine hR.run0 (by omega) 1 (S' := (2092, [some (vR 98), some (vR 0), some (vR 100), some (vR 120), some (vI i), none, none], [vR 100, vI (τ.1 5)], LW τ κ τ ρ out)) rfl ?_
  refine hR.cv (by omega) [] kL_238 rfl rfl ⟨_, _, _, rfl, rfl, rfl⟩ (by decide) (Nat.le_of_ble_eq_true rfl) (by decide) rfl h2 ?_
  refine hR.br (by omega) (C := τ.1 5 = τ.1 5) rfl (by omega) (fun _ => ?_) (fun h => absurd rfl h)
  exact kont _ _ _ _ _ (Nat.le_succ _) hJ
theorem kS_239 : sLinkW RL 239 mL_rate hhL_rate 4 := ⟨gT_at 888 (by decide +kernel) (by decide +kernel), gT_at 889 (by decide +kernel) (by decide +kernel), gT_at 0 (by decide +kernel) (by decide +kernel), gT_at 890 (by decide +kernel) (by decide +kernel), ⟨by decide +kernel, by decide +kernel, by decide +kernel⟩⟩
theorem kL_241 : vLink RL 241 mX6_rate 2 := ⟨gT_at 1313 (by decide +kernel) (by decide +kernel), wX6_rate⟩
set_option maxHeartbeats 4000000 in
theorem cs_rate {xs : Int → Int} {N : Nat} {G : Nat → PS → Prop} (hR : Rl lkL ((98, N, xs) :: roC) bL_law 100 G) (hx : N ≤ 2048 ∧ ∀ j, -2147483648 ≤ xs j ∧ xs j ≤ 2147483647) {τ κ ρ : St} {out : Int → Int} (hJ : Jv τ κ) {k : Nat} (hk : k < 600) {i : Int} (hi : 0 ≤ i ∧ i + 4 ≤ N) (kont : ∀ (τ κ ρ : St) (out : Int → Int) (j : Nat), j ≤ k + 1 → Jv τ κ → G j (2248, Lh_ i, [], LW τ κ τ ρ out)) : G k (2100, Lh_ i, [], LW τ κ τ ρ out) := by
  have hN := hx.1
  have hxr := hx.2
  have hr1 := hxr (i + 1)
  have hr2 := hxr (i + 2)
  have hro : ∀ q ∈ roC, q ∈ ((98, N, xs) :: roC : PRO) := fun q hq => List.mem_cons_of_mem _ hq
  have hw := wL_rate τ κ τ ρ out hro hr1 hr2 hJ.1
  have hm := fun (σ κ2 : St) (out2 : Int → Int) => frM (σ := σ) (κ := κ2) (out := out2) hro (pX6_rate τ ρ hr1 hr2 hJ.1)
  have hcd := cd_xRate τ (xs (i + 1)) (xs (i + 2))
  have hth : (sS ρ 0 (xRate τ (xs (i + 1)) (xs (i + 2))).1).1 0 = (xRate τ (xs (i + 1)) (xs (i + 2))).1 := rfl
  have hJ2 := J_rate hJ (xs (i + 1)) (xs (i + 2))
  generalize (sS ρ 0 (xRate τ (xs (i + 1)) (xs (i + 2))).1) = ρ2 at hm hth
  generalize xRate τ (xs (i + 1)) (xs (i + 2)) = x at hw hm hcd hth hJ2
  refine hR.run1 (by omega) 12 (S' := (2114, [some (vR 98), some (vR 0), some (vR 100), some (vR 120), some (vI i), none, none], [vR 120, vI (xs (i + 2)), vI (xs (i + 1)), vR 0], LW τ κ τ ρ out)) rfl (by omega) ?_
  refine hR.cw hk [vR 0, vI (xs (i + 1)), vI (xs (i + 2)), vR 120] kS_239 rfl rfl (by decide) (Nat.le_of_ble_eq_true rfl) (by decide) rfl hw ?_
  refine hR.run1 (by omega) 12 (S' := (2132, [some (vR 98), some (vR 0), some (vR 100), some (vR 120), some (vI i), some (vI x.1), none], [vI (xs (i + 2)), vI (xs (i + 1)), vR 100], LW x.2.2 κ τ ρ (oP x out))) rfl (by omega) ?_
  refine hR.cv (by omega) [vI (xs (i + 1)), vI (xs (i + 2))] kL_241 rfl rfl ⟨_, _, _, rfl, rfl, rfl⟩ (by decide) (Nat.le_of_ble_eq_true rfl) (by decide) rfl (hm _ _ _) ?_
  show G (k + 1) (2135, [some (vR 98), some (vR 0), some (vR 100), some (vR 120), some (vI i), some (vI x.1), none], [vI x.2.1], LW x.2.2 κ x.2.2 ρ2 (oP x out))
  refine hR.2.2.2.2.2.1 _ _ _ _ _ _ ?_
  refine hR.run0 (by omega) 2 (S' := (2138, [some (vR 98), some (vR 0), some (vR 100), some (vR 120), some (vI i), some (vI x.1), some (vI (nmI x.2.1))], [vR 100], LW x.2.2 κ x.2.2 ρ2 (oP x out))) rfl ?_
  refine hR.cv (by omega) [] kL_127 rfl rfl ⟨_, _, _, rfl, rfl, rfl⟩ (by decide) (Nat.le_of_ble_eq_true rfl) (by decide) rfl (frM hro (sr_thrown _ _)) ?_
  show G (k + 1) (2141, [some (vR 98), some (vR 0), some (vR 100), some (vR 120), some (vI i), some (vI x.1), some (vI (nmI x.2.1))], [vI (ρ2.1 0)], LW x.2.2 κ x.2.2 ρ2 (oP x out))
  rw [hth]
  refine hR.run0 (by omega) 1 (S' := (2143, [some (vR 98), some (vR 0), some (vR 100), some (vR 120), some (vI i), some (vI x.1), some (vI (nmI x.2.1))], [vI x.1, vI x.1], LW x.2.2 κ x.2.2 ρ2 (oP x out))) rfl ?_
  refine hR.br (by omega) (C := x.1 = x.1) rfl (by omega) (fun _ => ?_) (fun h => absurd rfl h)
  refine hR.run0 (by omega) 1 (S' := (2150, [some (vR 98), some (vR 0), some (vR 100), some (vR 120), some (vI i), some (vI x.1), some (vI (nmI x.2.1))], [vI x.1], LW x.2.2 κ x.2.2 ρ2 (oP x out))) rfl ?_
  refine hR.br (by omega) (C := x.1 ≠ 0) rfl (by omega) (fun _ => ?_) (fun h => ?_)
  · skip
    refine hR.run0 (by omega) 1 (S' := (2248, [some (vR 98), some (vR 0), some (vR 100), some (vR 120), some (vI i), some (vI x.1), some (vI (nmI x.2.1))], [], LW x.2.2 κ x.2.2 ρ2 (oP x out))) rfl ?_
    refine hR.2.2.2.2.2.2 _ 5 _ _ _ _ ?_
    refine hR.2.2.2.2.2.2 _ 6 _ _ _ _ ?_
    exact kont _ _ _ _ _ (Nat.le_refl _) hJ2
  · have h0 : x.1 = 0 := by omega
    have ho := oP_0 (out := out) h0
    have hnr := nmI_r x.2.1
    refine hR.run1 (by omega) 6 (S' := (2160, [some (vR 98), some (vR 0), some (vR 100), some (vR 120), some (vI i), some (vI x.1), some (vI (nmI x.2.1))], [vI (if nmI x.2.1 < (oP x out) 0 then 1 else if (oP x out) 0 = nmI x.2.1 then 0 else -1)], LW x.2.2 κ x.2.2 ρ2 (oP x out))) rfl (by rw [ho]; omega) ?_
    refine hR.br (by omega) (C := (if nmI x.2.1 < (oP x out) 0 then (1 : Int) else if (oP x out) 0 = nmI x.2.1 then 0 else -1) = 0) rfl (by (repeat' split) <;> omega) (fun _ => ?_) (fun h => absurd (lc0.mpr ho) h)
    refine hR.run0 (by omega) 1 (S' := (2248, [some (vR 98), some (vR 0), some (vR 100), some (vR 120), some (vI i), some (vI x.1), some (vI (nmI x.2.1))], [], LW x.2.2 κ x.2.2 ρ2 (oP x out))) rfl ?_
    refine hR.2.2.2.2.2.2 _ 5 _ _ _ _ ?_
    refine hR.2.2.2.2.2.2 _ 6 _ _ _ _ ?_
    exact kont _ _ _ _ _ (Nat.le_refl _) hJ2
theorem kS_242 : sLinkW RL 242 mL_wouldGet hhL_wouldGet 5 := ⟨gT_at 895 (by decide +kernel) (by decide +kernel), gT_at 896 (by decide +kernel) (by decide +kernel), gT_at 0 (by decide +kernel) (by decide +kernel), gT_at 897 (by decide +kernel) (by decide +kernel), ⟨by decide +kernel, by decide +kernel, by decide +kernel⟩⟩
theorem kL_244 : vLink RL 244 mX6_wouldGet 3 := ⟨gT_at 1317 (by decide +kernel) (by decide +kernel), wX6_wouldGet⟩
set_option maxHeartbeats 4000000 in
theorem cs_wouldGet {xs : Int → Int} {N : Nat} {G : Nat → PS → Prop} (hR : Rl lkL ((98, N, xs) :: roC) bL_law 100 G) (hx : N ≤ 2048 ∧ ∀ j, -2147483648 ≤ xs j ∧ xs j ≤ 2147483647) {τ κ ρ : St} {out : Int → Int} (hJ : Jv τ κ) {k : Nat} (hk : k < 600) {i : Int} (hi : 0 ≤ i ∧ i + 4 ≤ N) (kont : ∀ (τ κ ρ : St) (out : Int → Int) (j : Nat), j ≤ k + 1 → Jv τ κ → G j (2248, Lh_ i, [], LW τ κ τ ρ out)) : G k (2168, Lh_ i, [], LW τ κ τ ρ out) := by
  have hN := hx.1
  have hxr := hx.2
  have hr1 := hxr (i + 1)
  have hr2 := hxr (i + 2)
  have hr3 := hxr (i + 3)
  have hro : ∀ q ∈ roC, q ∈ ((98, N, xs) :: roC : PRO) := fun q hq => List.mem_cons_of_mem _ hq
  have hw := wL_wouldGet τ κ τ ρ out hro hr1 hr2 hr3 hJ.1
  have hm := fun (σ κ2 : St) (out2 : Int → Int) => frM (σ := σ) (κ := κ2) (out := out2) hro (pX6_wouldGet τ ρ hr1 hr2 hr3 hJ.1)
  have hcd := cd_xWould τ (xs (i + 1)) (xs (i + 2)) (xs (i + 3))
  have hth : (rWould τ ρ (xs (i + 1)) (xs (i + 2)) (xs (i + 3))).1 0 = (xWould τ (xs (i + 1)) (xs (i + 2)) (xs (i + 3))).1 := r1_rWould τ ρ (xs (i + 1)) (xs (i + 2)) (xs (i + 3))
  have hJ2 := J_wouldGet hJ (xs (i + 1)) (xs (i + 2)) (xs (i + 3))
  generalize (rWould τ ρ (xs (i + 1)) (xs (i + 2)) (xs (i + 3))) = ρ2 at hm hth
  generalize xWould τ (xs (i + 1)) (xs (i + 2)) (xs (i + 3)) = x at hw hm hcd hth hJ2
  refine hR.run1 (by omega) 17 (S' := (2188, [some (vR 98), some (vR 0), some (vR 100), some (vR 120), some (vI i), none, none], [vR 120, vI (xs (i + 3)), vI (xs (i + 2)), vI (xs (i + 1)), vR 0], LW τ κ τ ρ out)) rfl (by omega) ?_
  refine hR.cw hk [vR 0, vI (xs (i + 1)), vI (xs (i + 2)), vI (xs (i + 3)), vR 120] kS_242 rfl rfl (by decide) (Nat.le_of_ble_eq_true rfl) (by decide) rfl hw ?_
  refine hR.run1 (by omega) 17 (S' := (2212, [some (vR 98), some (vR 0), some (vR 100), some (vR 120), some (vI i), some (vI x.1), none], [vI (xs (i + 3)), vI (xs (i + 2)), vI (xs (i + 1)), vR 100], LW x.2.2 κ τ ρ (oP x out))) rfl (by omega) ?_
  refine hR.cv (by omega) [vI (xs (i + 1)), vI (xs (i + 2)), vI (xs (i + 3))] kL_244 rfl rfl ⟨_, _, _, rfl, rfl, rfl⟩ (by decide) (Nat.le_of_ble_eq_true rfl) (by decide) rfl (hm _ _ _) ?_
  show G (k + 1) (2215, [some (vR 98), some (vR 0), some (vR 100), some (vR 120), some (vI i), some (vI x.1), none], [vI x.2.1], LW x.2.2 κ x.2.2 ρ2 (oP x out))
  refine hR.2.2.2.2.2.1 _ _ _ _ _ _ ?_
  refine hR.run0 (by omega) 2 (S' := (2218, [some (vR 98), some (vR 0), some (vR 100), some (vR 120), some (vI i), some (vI x.1), some (vI (nmI x.2.1))], [vR 100], LW x.2.2 κ x.2.2 ρ2 (oP x out))) rfl ?_
  refine hR.cv (by omega) [] kL_127 rfl rfl ⟨_, _, _, rfl, rfl, rfl⟩ (by decide) (Nat.le_of_ble_eq_true rfl) (by decide) rfl (frM hro (sr_thrown _ _)) ?_
  show G (k + 1) (2221, [some (vR 98), some (vR 0), some (vR 100), some (vR 120), some (vI i), some (vI x.1), some (vI (nmI x.2.1))], [vI (ρ2.1 0)], LW x.2.2 κ x.2.2 ρ2 (oP x out))
  rw [hth]
  refine hR.run0 (by omega) 1 (S' := (2223, [some (vR 98), some (vR 0), some (vR 100), some (vR 120), some (vI i), some (vI x.1), some (vI (nmI x.2.1))], [vI x.1, vI x.1], LW x.2.2 κ x.2.2 ρ2 (oP x out))) rfl ?_
  refine hR.br (by omega) (C := x.1 = x.1) rfl (by omega) (fun _ => ?_) (fun h => absurd rfl h)
  refine hR.run0 (by omega) 1 (S' := (2230, [some (vR 98), some (vR 0), some (vR 100), some (vR 120), some (vI i), some (vI x.1), some (vI (nmI x.2.1))], [vI x.1], LW x.2.2 κ x.2.2 ρ2 (oP x out))) rfl ?_
  refine hR.br (by omega) (C := x.1 ≠ 0) rfl (by omega) (fun _ => ?_) (fun h => ?_)
  · skip
    refine hR.run0 (by omega) 1 (S' := (2248, [some (vR 98), some (vR 0), some (vR 100), some (vR 120), some (vI i), some (vI x.1), some (vI (nmI x.2.1))], [], LW x.2.2 κ x.2.2 ρ2 (oP x out))) rfl ?_
    refine hR.2.2.2.2.2.2 _ 5 _ _ _ _ ?_
    refine hR.2.2.2.2.2.2 _ 6 _ _ _ _ ?_
    exact kont _ _ _ _ _ (Nat.le_refl _) hJ2
  · have h0 : x.1 = 0 := by omega
    have ho := oP_0 (out := out) h0
    have hnr := nmI_r x.2.1
    refine hR.run1 (by omega) 6 (S' := (2240, [some (vR 98), some (vR 0), some (vR 100), some (vR 120), some (vI i), some (vI x.1), some (vI (nmI x.2.1))], [vI (if nmI x.2.1 < (oP x out) 0 then 1 else if (oP x out) 0 = nmI x.2.1 then 0 else -1)], LW x.2.2 κ x.2.2 ρ2 (oP x out))) rfl (by rw [ho]; omega) ?_
    refine hR.br (by omega) (C := (if nmI x.2.1 < (oP x out) 0 then (1 : Int) else if (oP x out) 0 = nmI x.2.1 then 0 else -1) = 0) rfl (by (repeat' split) <;> omega) (fun _ => ?_) (fun h => absurd (lc0.mpr ho) h)
    refine hR.run0 (by omega) 1 (S' := (2248, [some (vR 98), some (vR 0), some (vR 100), some (vR 120), some (vI i), some (vI x.1), some (vI (nmI x.2.1))], [], LW x.2.2 κ x.2.2 ρ2 (oP x out))) rfl ?_
    refine hR.2.2.2.2.2.2 _ 5 _ _ _ _ ?_
    refine hR.2.2.2.2.2.2 _ 6 _ _ _ _ ?_
    exact kont _ _ _ _ _ (Nat.le_refl _) hJ2
set_option maxHeartbeats 4000000 in
theorem law_loop {xs : Int → Int} {N : Nat} {G : Nat → PS → Prop} (hR : Rl lkL ((98, N, xs) :: roC) bL_law 100 G) (hx : N ≤ 2048 ∧ ∀ j, -2147483648 ≤ xs j ∧ xs j ≤ 2147483647) : ∀ (n k : Nat) (τ κ ρ : St) (out : Int → Int) (i : Int), (0 ≤ i ∧ (N : Int) - i ≤ 4 * n ∧ i ≤ 2048) → k + n ≤ 560 → Jv τ κ → G k (23, Lh_ i, [], LW τ κ τ ρ out) := by
  intro n
  induction n with
  | zero =>
    intro k τ κ ρ out i hi hk hJ
    have hN := hx.1
    refine hR.run1 (by omega) 5 (S' := (29, Lh_ i, [vI ((N : Int) - 4), vI i], LW τ κ τ ρ out)) rfl (by omega) ?_
    refine hR.br (by omega) (C := (N : Int) - 4 < i) rfl (by omega) (fun _ => ?_) (fun h => by omega)
    refine hR.run0 (by omega) 1 (S' := (2255, Lh_ i, [vI 1], LW τ κ τ ρ out)) rfl ?_
    exact hR.2.2.2.2.1 _ _ _ _ (by omega) rfl
  | succ n ih =>
    intro k τ κ ρ out i hi hk hJ
    have hN := hx.1
    refine hR.run1 (by omega) 5 (S' := (29, Lh_ i, [vI ((N : Int) - 4), vI i], LW τ κ τ ρ out)) rfl (by omega) ?_
    refine hR.br (by omega) (C := (N : Int) - 4 < i) rfl (by omega) (fun _ => ?_) (fun h => ?_)
    · refine hR.run0 (by omega) 1 (S' := (2255, Lh_ i, [vI 1], LW τ κ τ ρ out)) rfl ?_
      exact hR.2.2.2.2.1 _ _ _ _ (by omega) rfl
    · have kont : ∀ (τ κ ρ : St) (out : Int → Int) (j : Nat), j ≤ k + 1 → Jv τ κ → G j (2248, Lh_ i, [], LW τ κ τ ρ out) := by
        intro τ κ ρ out j hj hJ
        refine hR.run0 (by omega) 2 (S' := (23, Lh_ (i + 4), [], LW τ κ τ ρ out)) rfl ?_
        exact ih j τ κ ρ out (i + 4) (by omega) (by omega) hJ
      refine hR.run1 (by omega) 5 (S' := (39, Lh_ i, [vI (iA (xs i) 63)], LW τ κ τ ρ out)) rfl (by omega) ?_
      have hc := and63 (xs i)
      generalize iA (xs i) 63 = v at hc ⊢
      have hd : ∀ v : Int, 36 ≤ v ∧ v < 64 → G k (39, Lh_ i, [vI v], LW τ κ τ ρ out) := by
        intro v hv
        rcases (show v = 36 ∨ v = 37 ∨ v = 38 ∨ v = 39 ∨ v = 40 ∨ v = 41 ∨ v = 42 ∨ v = 43 ∨ v = 44 ∨ v = 45 ∨ v = 46 ∨ v = 47 ∨ v = 48 ∨ v = 49 ∨ v = 50 ∨ v = 51 ∨ v = 52 ∨ v = 53 ∨ v = 54 ∨ v = 55 ∨ v = 56 ∨ v = 57 ∨ v = 58 ∨ v = 59 ∨ v = 60 ∨ v = 61 ∨ v = 62 ∨ v = 63 from by omega) with rfl | rfl | rfl | rfl | rfl | rfl | rfl | rfl | rfl | rfl | rfl | rfl | rfl | rfl | rfl | rfl | rfl | rfl | rfl | rfl | rfl | rfl | rfl | rfl | rfl | rfl | rfl | rfl
        all_goals exact hR.run1 (by omega) 1 (S' := (2248, Lh_ i, [], LW τ κ τ ρ out)) rfl (by omega) (kont _ _ _ _ _ (Nat.le_succ _) hJ)
      by_cases h36 : 36 ≤ v
      · exact hd v (by omega)
      · rcases (show v = 0 ∨ v = 1 ∨ v = 2 ∨ v = 3 ∨ v = 4 ∨ v = 5 ∨ v = 6 ∨ v = 7 ∨ v = 8 ∨ v = 9 ∨ v = 10 ∨ v = 11 ∨ v = 12 ∨ v = 13 ∨ v = 14 ∨ v = 15 ∨ v = 16 ∨ v = 17 ∨ v = 18 ∨ v = 19 ∨ v = 20 ∨ v = 21 ∨ v = 22 ∨ v = 23 ∨ v = 24 ∨ v = 25 ∨ v = 26 ∨ v = 27 ∨ v = 28 ∨ v = 29 ∨ v = 30 ∨ v = 31 ∨ v = 32 ∨ v = 33 ∨ v = 34 ∨ v = 35 from by omega) with rfl | rfl | rfl | rfl | rfl | rfl | rfl | rfl | rfl | rfl | rfl | rfl | rfl | rfl | rfl | rfl | rfl | rfl | rfl | rfl | rfl | rfl | rfl | rfl | rfl | rfl | rfl | rfl | rfl | rfl | rfl | rfl | rfl | rfl | rfl | rfl
        · exact hR.run1 (by omega) 1 (S' := (196, Lh_ i, [], LW τ κ τ ρ out)) rfl (by omega) (cs_layHex hR hx hJ (by omega) (by omega) kont)
        · exact hR.run1 (by omega) 1 (S' := (256, Lh_ i, [], LW τ κ τ ρ out)) rfl (by omega) (cs_place hR hx hJ (by omega) (by omega) kont)
        · exact hR.run1 (by omega) 1 (S' := (324, Lh_ i, [], LW τ κ τ ρ out)) rfl (by omega) (cs_deal hR hx hJ (by omega) (by omega) kont)
        · exact hR.run1 (by omega) 1 (S' := (392, Lh_ i, [], LW τ κ τ ρ out)) rfl (by omega) (cs_roll hR hx hJ (by omega) (by omega) kont)
        · exact hR.run1 (by omega) 1 (S' := (460, Lh_ i, [], LW τ κ τ ρ out)) rfl (by omega) (cs_discard hR hx hJ (by omega) (by omega) kont)
        · exact hR.run1 (by omega) 1 (S' := (528, Lh_ i, [], LW τ κ τ ρ out)) rfl (by omega) (cs_rob hR hx hJ (by omega) (by omega) kont)
        · exact hR.run1 (by omega) 1 (S' := (608, Lh_ i, [], LW τ κ τ ρ out)) rfl (by omega) (cs_road hR hx hJ (by omega) (by omega) kont)
        · exact hR.run1 (by omega) 1 (S' := (664, Lh_ i, [], LW τ κ τ ρ out)) rfl (by omega) (cs_house hR hx hJ (by omega) (by omega) kont)
        · exact hR.run1 (by omega) 1 (S' := (720, Lh_ i, [], LW τ κ τ ρ out)) rfl (by omega) (cs_city hR hx hJ (by omega) (by omega) kont)
        · exact hR.run1 (by omega) 1 (S' := (776, Lh_ i, [], LW τ κ τ ρ out)) rfl (by omega) (cs_buy hR hx hJ (by omega) (by omega) kont)
        · exact hR.run1 (by omega) 1 (S' := (820, Lh_ i, [], LW τ κ τ ρ out)) rfl (by omega) (cs_knight hR hx hJ (by omega) (by omega) kont)
        · exact hR.run1 (by omega) 1 (S' := (900, Lh_ i, [], LW τ κ τ ρ out)) rfl (by omega) (cs_roads hR hx hJ (by omega) (by omega) kont)
        · exact hR.run1 (by omega) 1 (S' := (968, Lh_ i, [], LW τ κ τ ρ out)) rfl (by omega) (cs_plenty hR hx hJ (by omega) (by omega) kont)
        · exact hR.run1 (by omega) 1 (S' := (1036, Lh_ i, [], LW τ κ τ ρ out)) rfl (by omega) (cs_monopoly hR hx hJ (by omega) (by omega) kont)
        · exact hR.run1 (by omega) 1 (S' := (1092, Lh_ i, [], LW τ κ τ ρ out)) rfl (by omega) (cs_swap hR hx hJ (by omega) (by omega) kont)
        · exact hR.run1 (by omega) 1 (S' := (1160, Lh_ i, [], LW τ κ τ ρ out)) rfl (by omega) (cs_offer hR hx hJ (by omega) (by omega) kont)
        · exact hR.run1 (by omega) 1 (S' := (1208, Lh_ i, [], LW τ κ τ ρ out)) rfl (by omega) (cs_counter hR hx hJ (by omega) (by omega) kont)
        · exact hR.run1 (by omega) 1 (S' := (1268, Lh_ i, [], LW τ κ τ ρ out)) rfl (by omega) (cs_accept hR hx hJ (by omega) (by omega) kont)
        · exact hR.run1 (by omega) 1 (S' := (1324, Lh_ i, [], LW τ κ τ ρ out)) rfl (by omega) (cs_agree hR hx hJ (by omega) (by omega) kont)
        · exact hR.run1 (by omega) 1 (S' := (1380, Lh_ i, [], LW τ κ τ ρ out)) rfl (by omega) (cs_endTurn hR hx hJ (by omega) (by omega) kont)
        · exact hR.run1 (by omega) 1 (S' := (1424, Lh_ i, [], LW τ κ τ ρ out)) rfl (by omega) (cs_phase hR hx hJ (by omega) (by omega) kont)
        · exact hR.run1 (by omega) 1 (S' := (1437, Lh_ i, [], LW τ κ τ ρ out)) rfl (by omega) (cs_turn hR hx hJ (by omega) (by omega) kont)
        · exact hR.run1 (by omega) 1 (S' := (1450, Lh_ i, [], LW τ κ τ ρ out)) rfl (by omega) (cs_hand hR hx hJ (by omega) (by omega) kont)
        · exact hR.run1 (by omega) 1 (S' := (1518, Lh_ i, [], LW τ κ τ ρ out)) rfl (by omega) (cs_handByMoves hR hx hJ (by omega) (by omega) kont)
        · exact hR.run1 (by omega) 1 (S' := (1586, Lh_ i, [], LW τ κ τ ρ out)) rfl (by omega) (cs_due hR hx hJ (by omega) (by omega) kont)
        · exact hR.run1 (by omega) 1 (S' := (1642, Lh_ i, [], LW τ κ τ ρ out)) rfl (by omega) (cs_points hR hx hJ (by omega) (by omega) kont)
        · exact hR.run1 (by omega) 1 (S' := (1698, Lh_ i, [], LW τ κ τ ρ out)) rfl (by omega) (cs_trail hR hx hJ (by omega) (by omega) kont)
        · exact hR.run1 (by omega) 1 (S' := (1754, Lh_ i, [], LW τ κ τ ρ out)) rfl (by omega) (cs_trailBySets hR hx hJ (by omega) (by omega) kont)
        · exact hR.run1 (by omega) 1 (S' := (1810, Lh_ i, [], LW τ κ τ ρ out)) rfl (by omega) (cs_holder hR hx hJ (by omega) (by omega) kont)
        · exact hR.run1 (by omega) 1 (S' := (1851, Lh_ i, [], LW τ κ τ ρ out)) rfl (by omega) (cs_knights hR hx hJ (by omega) (by omega) kont)
        · exact hR.run1 (by omega) 1 (S' := (1907, Lh_ i, [], LW τ κ τ ρ out)) rfl (by omega) (cs_cards hR hx hJ (by omega) (by omega) kont)
        · exact hR.run1 (by omega) 1 (S' := (1975, Lh_ i, [], LW τ κ τ ρ out)) rfl (by omega) (cs_buildingAt hR hx hJ (by omega) (by omega) kont)
        · exact hR.run1 (by omega) 1 (S' := (2031, Lh_ i, [], LW τ κ τ ρ out)) rfl (by omega) (cs_roadAt hR hx hJ (by omega) (by omega) kont)
        · exact hR.run1 (by omega) 1 (S' := (2087, Lh_ i, [], LW τ κ τ ρ out)) rfl (by omega) (cs_robber hR hx hJ (by omega) (by omega) kont)
        · exact hR.run1 (by omega) 1 (S' := (2100, Lh_ i, [], LW τ κ τ ρ out)) rfl (by omega) (cs_rate hR hx hJ (by omega) (by omega) kont)
        · exact hR.run1 (by omega) 1 (S' := (2168, Lh_ i, [], LW τ κ τ ρ out)) rfl (by omega) (cs_wouldGet hR hx hJ (by omega) (by omega) kont)
