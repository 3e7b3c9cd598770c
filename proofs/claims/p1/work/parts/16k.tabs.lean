noncomputable section
def dl_0_0 : List (Nat × Instr × Nat) := [(0, .new 7, 3), (3, .dup, 1), (4, .invokespecial 9, 3), (7, .astore_n 1, 1), (8, .new 10, 3), (11, .dup, 1), (12, .invokespecial 12, 3), (15, .astore_n 2, 1), (16, .iconst 0, 1), (17, .istore_n 3, 1), (18, .iload_n 3, 1), (19, .aload_n 0, 1), (20, .arraylength, 1), (21, .bipush 6, 2), (23, .isub, 1), (24, .if_icmp .gt 2124, 3), (27, .aload_n 0, 1), (28, .iload_n 3, 1), (29, .iaload, 1), (30, .bipush 63, 2), (32, .iand, 1), (33, .tableswitch 2109 0 51 #[223, 286, 309, 322, 375, 438, 491, 534, 577, 630, 673, 736, 769, 822, 865, 908, 971, 1004, 1027, 1076, 1135, 1158, 1181, 1194, 1227, 1250, 1283, 1342, 1417, 1440, 1463, 1486, 1529, 1562, 1605, 1628, 1651, 1664, 1697, 1730, 1773, 1806, 1839, 1872, 1905, 1928, 1961, 1984, 1997, 2030, 2063, 2086], 223), (256, .aload_n 1, 1), (257, .aload_n 0, 1), (258, .iload_n 3, 1), (259, .iconst 1, 1), (260, .iadd, 1), (261, .iaload, 1), (262, .aload_n 0, 1), (263, .iload_n 3, 1), (264, .iconst 2, 1), (265, .iadd, 1), (266, .iaload, 1), (267, .aload_n 0, 1), (268, .iload_n 3, 1), (269, .iconst 3, 1), (270, .iadd, 1), (271, .iaload, 1), (272, .aload_n 0, 1), (273, .iload_n 3, 1), (274, .iconst 4, 1), (275, .iadd, 1), (276, .iaload, 1), (277, .aload_n 0, 1), (278, .iload_n 3, 1), (279, .iconst 5, 1), (280, .iadd, 1), (281, .iaload, 1), (282, .invokevirtual 13, 3), (285, .aload_n 2, 1), (286, .aload_n 0, 1), (287, .iload_n 3, 1), (288, .iconst 1, 1), (289, .iadd, 1), (290, .iaload, 1), (291, .aload_n 0, 1), (292, .iload_n 3, 1), (293, .iconst 2, 1), (294, .iadd, 1), (295, .iaload, 1), (296, .aload_n 0, 1), (297, .iload_n 3, 1), (298, .iconst 3, 1), (299, .iadd, 1), (300, .iaload, 1), (301, .aload_n 0, 1), (302, .iload_n 3, 1), (303, .iconst 4, 1), (304, .iadd, 1), (305, .iaload, 1), (306, .aload_n 0, 1), (307, .iload_n 3, 1), (308, .iconst 5, 1), (309, .iadd, 1), (310, .iaload, 1), (311, .invokevirtual 17, 3), (314, .if_icmp .eq 1828, 3), (319, .aload_n 1, 1), (320, .aload_n 0, 1), (321, .iload_n 3, 1), (322, .iconst 1, 1), (323, .iadd, 1), (324, .iaload, 1), (325, .invokevirtual 18, 3), (328, .aload_n 2, 1), (329, .aload_n 0, 1), (330, .iload_n 3, 1), (331, .iconst 1, 1), (332, .iadd, 1), (333, .iaload, 1), (334, .invokevirtual 22, 3), (337, .if_icmp .eq 1805, 3), (342, .aload_n 1, 1), (343, .invokevirtual 23, 3), (346, .aload_n 2, 1), (347, .invokevirtual 27, 3), (350, .if_icmp .eq 1792, 3), (355, .aload_n 1, 1), (356, .aload_n 0, 1), (357, .iload_n 3, 1)]
set_option maxRecDepth 20000 in
theorem dl_0_0_ok : dl_0_0.all (fun q => decide (decode code q.1 = .ok (q.2.1, q.2.2))) = true := by decide +kernel
def dl_0_1 : List (Nat × Instr × Nat) := [(358, .iconst 1, 1), (359, .iadd, 1), (360, .iaload, 1), (361, .aload_n 0, 1), (362, .iload_n 3, 1), (363, .iconst 2, 1), (364, .iadd, 1), (365, .iaload, 1), (366, .aload_n 0, 1), (367, .iload_n 3, 1), (368, .iconst 3, 1), (369, .iadd, 1), (370, .iaload, 1), (371, .aload_n 0, 1), (372, .iload_n 3, 1), (373, .iconst 4, 1), (374, .iadd, 1), (375, .iaload, 1), (376, .invokevirtual 28, 3), (379, .aload_n 2, 1), (380, .aload_n 0, 1), (381, .iload_n 3, 1), (382, .iconst 1, 1), (383, .iadd, 1), (384, .iaload, 1), (385, .aload_n 0, 1), (386, .iload_n 3, 1), (387, .iconst 2, 1), (388, .iadd, 1), (389, .iaload, 1), (390, .aload_n 0, 1), (391, .iload_n 3, 1), (392, .iconst 3, 1), (393, .iadd, 1), (394, .iaload, 1), (395, .aload_n 0, 1), (396, .iload_n 3, 1), (397, .iconst 4, 1), (398, .iadd, 1), (399, .iaload, 1), (400, .invokevirtual 32, 3), (403, .if_icmp .eq 1739, 3), (408, .aload_n 1, 1), (409, .aload_n 0, 1), (410, .iload_n 3, 1), (411, .iconst 1, 1), (412, .iadd, 1), (413, .iaload, 1), (414, .aload_n 0, 1), (415, .iload_n 3, 1), (416, .iconst 2, 1), (417, .iadd, 1), (418, .iaload, 1), (419, .aload_n 0, 1), (420, .iload_n 3, 1), (421, .iconst 3, 1), (422, .iadd, 1), (423, .iaload, 1), (424, .aload_n 0, 1), (425, .iload_n 3, 1), (426, .iconst 4, 1), (427, .iadd, 1), (428, .iaload, 1), (429, .aload_n 0, 1), (430, .iload_n 3, 1), (431, .iconst 5, 1), (432, .iadd, 1), (433, .iaload, 1), (434, .invokevirtual 33, 3), (437, .aload_n 2, 1), (438, .aload_n 0, 1), (439, .iload_n 3, 1), (440, .iconst 1, 1), (441, .iadd, 1), (442, .iaload, 1), (443, .aload_n 0, 1), (444, .iload_n 3, 1), (445, .iconst 2, 1), (446, .iadd, 1), (447, .iaload, 1), (448, .aload_n 0, 1), (449, .iload_n 3, 1), (450, .iconst 3, 1), (451, .iadd, 1), (452, .iaload, 1), (453, .aload_n 0, 1), (454, .iload_n 3, 1), (455, .iconst 4, 1), (456, .iadd, 1), (457, .iaload, 1), (458, .aload_n 0, 1), (459, .iload_n 3, 1), (460, .iconst 5, 1), (461, .iadd, 1), (462, .iaload, 1), (463, .invokevirtual 36, 3), (466, .if_icmp .eq 1676, 3), (471, .aload_n 1, 1), (472, .aload_n 0, 1), (473, .iload_n 3, 1)]
set_option maxRecDepth 20000 in
theorem dl_0_1_ok : dl_0_1.all (fun q => decide (decode code q.1 = .ok (q.2.1, q.2.2))) = true := by decide +kernel
def dl_0_2 : List (Nat × Instr × Nat) := [(474, .iconst 1, 1), (475, .iadd, 1), (476, .iaload, 1), (477, .aload_n 0, 1), (478, .iload_n 3, 1), (479, .iconst 2, 1), (480, .iadd, 1), (481, .iaload, 1), (482, .aload_n 0, 1), (483, .iload_n 3, 1), (484, .iconst 3, 1), (485, .iadd, 1), (486, .iaload, 1), (487, .aload_n 0, 1), (488, .iload_n 3, 1), (489, .iconst 4, 1), (490, .iadd, 1), (491, .iaload, 1), (492, .invokevirtual 37, 3), (495, .aload_n 2, 1), (496, .aload_n 0, 1), (497, .iload_n 3, 1), (498, .iconst 1, 1), (499, .iadd, 1), (500, .iaload, 1), (501, .aload_n 0, 1), (502, .iload_n 3, 1), (503, .iconst 2, 1), (504, .iadd, 1), (505, .iaload, 1), (506, .aload_n 0, 1), (507, .iload_n 3, 1), (508, .iconst 3, 1), (509, .iadd, 1), (510, .iaload, 1), (511, .aload_n 0, 1), (512, .iload_n 3, 1), (513, .iconst 4, 1), (514, .iadd, 1), (515, .iaload, 1), (516, .invokevirtual 40, 3), (519, .if_icmp .eq 1623, 3), (524, .aload_n 1, 1), (525, .aload_n 0, 1), (526, .iload_n 3, 1), (527, .iconst 1, 1), (528, .iadd, 1), (529, .iaload, 1), (530, .aload_n 0, 1), (531, .iload_n 3, 1), (532, .iconst 2, 1), (533, .iadd, 1), (534, .iaload, 1), (535, .aload_n 0, 1), (536, .iload_n 3, 1), (537, .iconst 3, 1), (538, .iadd, 1), (539, .iaload, 1), (540, .invokevirtual 41, 3), (543, .aload_n 2, 1), (544, .aload_n 0, 1), (545, .iload_n 3, 1), (546, .iconst 1, 1), (547, .iadd, 1), (548, .iaload, 1), (549, .aload_n 0, 1), (550, .iload_n 3, 1), (551, .iconst 2, 1), (552, .iadd, 1), (553, .iaload, 1), (554, .aload_n 0, 1), (555, .iload_n 3, 1), (556, .iconst 3, 1), (557, .iadd, 1), (558, .iaload, 1), (559, .invokevirtual 45, 3), (562, .if_icmp .eq 1580, 3), (567, .aload_n 1, 1), (568, .aload_n 0, 1), (569, .iload_n 3, 1), (570, .iconst 1, 1), (571, .iadd, 1), (572, .iaload, 1), (573, .aload_n 0, 1), (574, .iload_n 3, 1), (575, .iconst 2, 1), (576, .iadd, 1), (577, .iaload, 1), (578, .aload_n 0, 1), (579, .iload_n 3, 1), (580, .iconst 3, 1), (581, .iadd, 1), (582, .iaload, 1), (583, .invokevirtual 46, 3), (586, .aload_n 2, 1), (587, .aload_n 0, 1), (588, .iload_n 3, 1), (589, .iconst 1, 1), (590, .iadd, 1), (591, .iaload, 1)]
set_option maxRecDepth 20000 in
theorem dl_0_2_ok : dl_0_2.all (fun q => decide (decode code q.1 = .ok (q.2.1, q.2.2))) = true := by decide +kernel
def dl_0_3 : List (Nat × Instr × Nat) := [(592, .aload_n 0, 1), (593, .iload_n 3, 1), (594, .iconst 2, 1), (595, .iadd, 1), (596, .iaload, 1), (597, .aload_n 0, 1), (598, .iload_n 3, 1), (599, .iconst 3, 1), (600, .iadd, 1), (601, .iaload, 1), (602, .invokevirtual 49, 3), (605, .if_icmp .eq 1537, 3), (610, .aload_n 1, 1), (611, .aload_n 0, 1), (612, .iload_n 3, 1), (613, .iconst 1, 1), (614, .iadd, 1), (615, .iaload, 1), (616, .aload_n 0, 1), (617, .iload_n 3, 1), (618, .iconst 2, 1), (619, .iadd, 1), (620, .iaload, 1), (621, .aload_n 0, 1), (622, .iload_n 3, 1), (623, .iconst 3, 1), (624, .iadd, 1), (625, .iaload, 1), (626, .aload_n 0, 1), (627, .iload_n 3, 1), (628, .iconst 4, 1), (629, .iadd, 1), (630, .iaload, 1), (631, .invokevirtual 50, 3), (634, .aload_n 2, 1), (635, .aload_n 0, 1), (636, .iload_n 3, 1), (637, .iconst 1, 1), (638, .iadd, 1), (639, .iaload, 1), (640, .aload_n 0, 1), (641, .iload_n 3, 1), (642, .iconst 2, 1), (643, .iadd, 1), (644, .iaload, 1), (645, .aload_n 0, 1), (646, .iload_n 3, 1), (647, .iconst 3, 1), (648, .iadd, 1), (649, .iaload, 1), (650, .aload_n 0, 1), (651, .iload_n 3, 1), (652, .iconst 4, 1), (653, .iadd, 1), (654, .iaload, 1), (655, .invokevirtual 53, 3), (658, .if_icmp .eq 1484, 3), (663, .aload_n 1, 1), (664, .aload_n 0, 1), (665, .iload_n 3, 1), (666, .iconst 1, 1), (667, .iadd, 1), (668, .iaload, 1), (669, .aload_n 0, 1), (670, .iload_n 3, 1), (671, .iconst 2, 1), (672, .iadd, 1), (673, .iaload, 1), (674, .aload_n 0, 1), (675, .iload_n 3, 1), (676, .iconst 3, 1), (677, .iadd, 1), (678, .iaload, 1), (679, .invokevirtual 54, 3), (682, .aload_n 2, 1), (683, .aload_n 0, 1), (684, .iload_n 3, 1), (685, .iconst 1, 1), (686, .iadd, 1), (687, .iaload, 1), (688, .aload_n 0, 1), (689, .iload_n 3, 1), (690, .iconst 2, 1), (691, .iadd, 1), (692, .iaload, 1), (693, .aload_n 0, 1), (694, .iload_n 3, 1), (695, .iconst 3, 1), (696, .iadd, 1), (697, .iaload, 1), (698, .invokevirtual 57, 3), (701, .if_icmp .eq 1441, 3), (706, .aload_n 1, 1), (707, .aload_n 0, 1), (708, .iload_n 3, 1), (709, .iconst 1, 1), (710, .iadd, 1), (711, .iaload, 1), (712, .aload_n 0, 1), (713, .iload_n 3, 1)]
set_option maxRecDepth 20000 in
theorem dl_0_3_ok : dl_0_3.all (fun q => decide (decode code q.1 = .ok (q.2.1, q.2.2))) = true := by decide +kernel
def dl_0_4 : List (Nat × Instr × Nat) := [(714, .iconst 2, 1), (715, .iadd, 1), (716, .iaload, 1), (717, .aload_n 0, 1), (718, .iload_n 3, 1), (719, .iconst 3, 1), (720, .iadd, 1), (721, .iaload, 1), (722, .aload_n 0, 1), (723, .iload_n 3, 1), (724, .iconst 4, 1), (725, .iadd, 1), (726, .iaload, 1), (727, .aload_n 0, 1), (728, .iload_n 3, 1), (729, .iconst 5, 1), (730, .iadd, 1), (731, .iaload, 1), (732, .invokevirtual 58, 3), (735, .aload_n 2, 1), (736, .aload_n 0, 1), (737, .iload_n 3, 1), (738, .iconst 1, 1), (739, .iadd, 1), (740, .iaload, 1), (741, .aload_n 0, 1), (742, .iload_n 3, 1), (743, .iconst 2, 1), (744, .iadd, 1), (745, .iaload, 1), (746, .aload_n 0, 1), (747, .iload_n 3, 1), (748, .iconst 3, 1), (749, .iadd, 1), (750, .iaload, 1), (751, .aload_n 0, 1), (752, .iload_n 3, 1), (753, .iconst 4, 1), (754, .iadd, 1), (755, .iaload, 1), (756, .aload_n 0, 1), (757, .iload_n 3, 1), (758, .iconst 5, 1), (759, .iadd, 1), (760, .iaload, 1), (761, .invokevirtual 61, 3), (764, .if_icmp .eq 1378, 3), (769, .aload_n 1, 1), (770, .aload_n 0, 1), (771, .iload_n 3, 1), (772, .iconst 1, 1), (773, .iadd, 1), (774, .iaload, 1), (775, .aload_n 0, 1), (776, .iload_n 3, 1), (777, .iconst 2, 1), (778, .iadd, 1), (779, .iaload, 1), (780, .invokevirtual 62, 3), (783, .aload_n 2, 1), (784, .aload_n 0, 1), (785, .iload_n 3, 1), (786, .iconst 1, 1), (787, .iadd, 1), (788, .iaload, 1), (789, .aload_n 0, 1), (790, .iload_n 3, 1), (791, .iconst 2, 1), (792, .iadd, 1), (793, .iaload, 1), (794, .invokevirtual 66, 3), (797, .if_icmp .eq 1345, 3), (802, .aload_n 1, 1), (803, .aload_n 0, 1), (804, .iload_n 3, 1), (805, .iconst 1, 1), (806, .iadd, 1), (807, .iaload, 1), (808, .aload_n 0, 1), (809, .iload_n 3, 1), (810, .iconst 2, 1), (811, .iadd, 1), (812, .iaload, 1), (813, .aload_n 0, 1), (814, .iload_n 3, 1), (815, .iconst 3, 1), (816, .iadd, 1), (817, .iaload, 1), (818, .aload_n 0, 1), (819, .iload_n 3, 1), (820, .iconst 4, 1), (821, .iadd, 1), (822, .iaload, 1), (823, .invokevirtual 67, 3), (826, .aload_n 2, 1), (827, .aload_n 0, 1), (828, .iload_n 3, 1), (829, .iconst 1, 1), (830, .iadd, 1), (831, .iaload, 1)]
set_option maxRecDepth 20000 in
theorem dl_0_4_ok : dl_0_4.all (fun q => decide (decode code q.1 = .ok (q.2.1, q.2.2))) = true := by decide +kernel
def dl_0_5 : List (Nat × Instr × Nat) := [(832, .aload_n 0, 1), (833, .iload_n 3, 1), (834, .iconst 2, 1), (835, .iadd, 1), (836, .iaload, 1), (837, .aload_n 0, 1), (838, .iload_n 3, 1), (839, .iconst 3, 1), (840, .iadd, 1), (841, .iaload, 1), (842, .aload_n 0, 1), (843, .iload_n 3, 1), (844, .iconst 4, 1), (845, .iadd, 1), (846, .iaload, 1), (847, .invokevirtual 70, 3), (850, .if_icmp .eq 1292, 3), (855, .aload_n 1, 1), (856, .aload_n 0, 1), (857, .iload_n 3, 1), (858, .iconst 1, 1), (859, .iadd, 1), (860, .iaload, 1), (861, .aload_n 0, 1), (862, .iload_n 3, 1), (863, .iconst 2, 1), (864, .iadd, 1), (865, .iaload, 1), (866, .aload_n 0, 1), (867, .iload_n 3, 1), (868, .iconst 3, 1), (869, .iadd, 1), (870, .iaload, 1), (871, .invokevirtual 71, 3), (874, .aload_n 2, 1), (875, .aload_n 0, 1), (876, .iload_n 3, 1), (877, .iconst 1, 1), (878, .iadd, 1), (879, .iaload, 1), (880, .aload_n 0, 1), (881, .iload_n 3, 1), (882, .iconst 2, 1), (883, .iadd, 1), (884, .iaload, 1), (885, .aload_n 0, 1), (886, .iload_n 3, 1), (887, .iconst 3, 1), (888, .iadd, 1), (889, .iaload, 1), (890, .invokevirtual 74, 3), (893, .if_icmp .eq 1249, 3), (898, .aload_n 1, 1), (899, .aload_n 0, 1), (900, .iload_n 3, 1), (901, .iconst 1, 1), (902, .iadd, 1), (903, .iaload, 1), (904, .aload_n 0, 1), (905, .iload_n 3, 1), (906, .iconst 2, 1), (907, .iadd, 1), (908, .iaload, 1), (909, .aload_n 0, 1), (910, .iload_n 3, 1), (911, .iconst 3, 1), (912, .iadd, 1), (913, .iaload, 1), (914, .invokevirtual 75, 3), (917, .aload_n 2, 1), (918, .aload_n 0, 1), (919, .iload_n 3, 1), (920, .iconst 1, 1), (921, .iadd, 1), (922, .iaload, 1), (923, .aload_n 0, 1), (924, .iload_n 3, 1), (925, .iconst 2, 1), (926, .iadd, 1), (927, .iaload, 1), (928, .aload_n 0, 1), (929, .iload_n 3, 1), (930, .iconst 3, 1), (931, .iadd, 1), (932, .iaload, 1), (933, .invokevirtual 78, 3), (936, .if_icmp .eq 1206, 3), (941, .aload_n 1, 1), (942, .aload_n 0, 1), (943, .iload_n 3, 1), (944, .iconst 1, 1), (945, .iadd, 1), (946, .iaload, 1), (947, .aload_n 0, 1), (948, .iload_n 3, 1), (949, .iconst 2, 1), (950, .iadd, 1), (951, .iaload, 1), (952, .aload_n 0, 1), (953, .iload_n 3, 1)]
set_option maxRecDepth 20000 in
theorem dl_0_5_ok : dl_0_5.all (fun q => decide (decode code q.1 = .ok (q.2.1, q.2.2))) = true := by decide +kernel
def dl_0_6 : List (Nat × Instr × Nat) := [(954, .iconst 3, 1), (955, .iadd, 1), (956, .iaload, 1), (957, .aload_n 0, 1), (958, .iload_n 3, 1), (959, .iconst 4, 1), (960, .iadd, 1), (961, .iaload, 1), (962, .aload_n 0, 1), (963, .iload_n 3, 1), (964, .iconst 5, 1), (965, .iadd, 1), (966, .iaload, 1), (967, .invokevirtual 79, 3), (970, .aload_n 2, 1), (971, .aload_n 0, 1), (972, .iload_n 3, 1), (973, .iconst 1, 1), (974, .iadd, 1), (975, .iaload, 1), (976, .aload_n 0, 1), (977, .iload_n 3, 1), (978, .iconst 2, 1), (979, .iadd, 1), (980, .iaload, 1), (981, .aload_n 0, 1), (982, .iload_n 3, 1), (983, .iconst 3, 1), (984, .iadd, 1), (985, .iaload, 1), (986, .aload_n 0, 1), (987, .iload_n 3, 1), (988, .iconst 4, 1), (989, .iadd, 1), (990, .iaload, 1), (991, .aload_n 0, 1), (992, .iload_n 3, 1), (993, .iconst 5, 1), (994, .iadd, 1), (995, .iaload, 1), (996, .invokevirtual 82, 3), (999, .if_icmp .eq 1143, 3), (1004, .aload_n 1, 1), (1005, .aload_n 0, 1), (1006, .iload_n 3, 1), (1007, .iconst 1, 1), (1008, .iadd, 1), (1009, .iaload, 1), (1010, .aload_n 0, 1), (1011, .iload_n 3, 1), (1012, .iconst 2, 1), (1013, .iadd, 1), (1014, .iaload, 1), (1015, .invokevirtual 83, 3), (1018, .aload_n 2, 1), (1019, .aload_n 0, 1), (1020, .iload_n 3, 1), (1021, .iconst 1, 1), (1022, .iadd, 1), (1023, .iaload, 1), (1024, .aload_n 0, 1), (1025, .iload_n 3, 1), (1026, .iconst 2, 1), (1027, .iadd, 1), (1028, .iaload, 1), (1029, .invokevirtual 86, 3), (1032, .if_icmp .eq 1110, 3), (1037, .aload_n 1, 1), (1038, .aload_n 0, 1), (1039, .iload_n 3, 1), (1040, .iconst 1, 1), (1041, .iadd, 1), (1042, .iaload, 1), (1043, .invokevirtual 87, 3), (1046, .aload_n 2, 1), (1047, .aload_n 0, 1), (1048, .iload_n 3, 1), (1049, .iconst 1, 1), (1050, .iadd, 1), (1051, .iaload, 1), (1052, .invokevirtual 90, 3), (1055, .if_icmp .eq 1087, 3), (1060, .aload_n 1, 1), (1061, .aload_n 0, 1), (1062, .iload_n 3, 1), (1063, .iconst 1, 1), (1064, .iadd, 1), (1065, .iaload, 1), (1066, .aload_n 0, 1), (1067, .iload_n 3, 1), (1068, .iconst 2, 1), (1069, .iadd, 1), (1070, .iaload, 1), (1071, .ifCond .eq 7, 3), (1074, .iconst 1, 1), (1075, .goto 4, 3), (1078, .iconst 0, 1), (1079, .invokevirtual 91, 3), (1082, .aload_n 2, 1), (1083, .aload_n 0, 1)]
set_option maxRecDepth 20000 in
theorem dl_0_6_ok : dl_0_6.all (fun q => decide (decode code q.1 = .ok (q.2.1, q.2.2))) = true := by decide +kernel
def dl_0_7 : List (Nat × Instr × Nat) := [(1084, .iload_n 3, 1), (1085, .iconst 1, 1), (1086, .iadd, 1), (1087, .iaload, 1), (1088, .aload_n 0, 1), (1089, .iload_n 3, 1), (1090, .iconst 2, 1), (1091, .iadd, 1), (1092, .iaload, 1), (1093, .ifCond .eq 7, 3), (1096, .iconst 1, 1), (1097, .goto 4, 3), (1100, .iconst 0, 1), (1101, .invokevirtual 95, 3), (1104, .if_icmp .eq 1038, 3), (1109, .aload_n 1, 1), (1110, .aload_n 0, 1), (1111, .iload_n 3, 1), (1112, .iconst 1, 1), (1113, .iadd, 1), (1114, .iaload, 1), (1115, .aload_n 0, 1), (1116, .iload_n 3, 1), (1117, .iconst 2, 1), (1118, .iadd, 1), (1119, .iaload, 1), (1120, .aload_n 0, 1), (1121, .iload_n 3, 1), (1122, .iconst 3, 1), (1123, .iadd, 1), (1124, .iaload, 1), (1125, .ifCond .eq 7, 3), (1128, .iconst 1, 1), (1129, .goto 4, 3), (1132, .iconst 0, 1), (1133, .invokevirtual 96, 3), (1136, .aload_n 2, 1), (1137, .aload_n 0, 1), (1138, .iload_n 3, 1), (1139, .iconst 1, 1), (1140, .iadd, 1), (1141, .iaload, 1), (1142, .aload_n 0, 1), (1143, .iload_n 3, 1), (1144, .iconst 2, 1), (1145, .iadd, 1), (1146, .iaload, 1), (1147, .aload_n 0, 1), (1148, .iload_n 3, 1), (1149, .iconst 3, 1), (1150, .iadd, 1), (1151, .iaload, 1), (1152, .ifCond .eq 7, 3), (1155, .iconst 1, 1), (1156, .goto 4, 3), (1159, .iconst 0, 1), (1160, .invokevirtual 100, 3), (1163, .if_icmp .eq 979, 3), (1168, .aload_n 1, 1), (1169, .aload_n 0, 1), (1170, .iload_n 3, 1), (1171, .iconst 1, 1), (1172, .iadd, 1), (1173, .iaload, 1), (1174, .invokevirtual 101, 3), (1177, .aload_n 2, 1), (1178, .aload_n 0, 1), (1179, .iload_n 3, 1), (1180, .iconst 1, 1), (1181, .iadd, 1), (1182, .iaload, 1), (1183, .invokevirtual 104, 3), (1186, .if_icmp .eq 956, 3), (1191, .aload_n 1, 1), (1192, .aload_n 0, 1), (1193, .iload_n 3, 1), (1194, .iconst 1, 1), (1195, .iadd, 1), (1196, .iaload, 1), (1197, .invokevirtual 105, 3), (1200, .aload_n 2, 1), (1201, .aload_n 0, 1), (1202, .iload_n 3, 1), (1203, .iconst 1, 1), (1204, .iadd, 1), (1205, .iaload, 1), (1206, .invokevirtual 108, 3), (1209, .if_icmp .eq 933, 3), (1214, .aload_n 1, 1), (1215, .invokevirtual 109, 3), (1218, .aload_n 2, 1), (1219, .invokevirtual 112, 3), (1222, .if_icmp .eq 920, 3), (1227, .aload_n 1, 1), (1228, .aload_n 0, 1), (1229, .iload_n 3, 1), (1230, .iconst 1, 1), (1231, .iadd, 1), (1232, .iaload, 1), (1233, .aload_n 0, 1)]
set_option maxRecDepth 20000 in
theorem dl_0_7_ok : dl_0_7.all (fun q => decide (decode code q.1 = .ok (q.2.1, q.2.2))) = true := by decide +kernel
def dl_0_8 : List (Nat × Instr × Nat) := [(1234, .iload_n 3, 1), (1235, .iconst 2, 1), (1236, .iadd, 1), (1237, .iaload, 1), (1238, .invokevirtual 113, 3), (1241, .aload_n 2, 1), (1242, .aload_n 0, 1), (1243, .iload_n 3, 1), (1244, .iconst 1, 1), (1245, .iadd, 1), (1246, .iaload, 1), (1247, .aload_n 0, 1), (1248, .iload_n 3, 1), (1249, .iconst 2, 1), (1250, .iadd, 1), (1251, .iaload, 1), (1252, .invokevirtual 116, 3), (1255, .if_icmp .eq 887, 3), (1260, .aload_n 1, 1), (1261, .aload_n 0, 1), (1262, .iload_n 3, 1), (1263, .iconst 1, 1), (1264, .iadd, 1), (1265, .iaload, 1), (1266, .invokevirtual 117, 3), (1269, .aload_n 2, 1), (1270, .aload_n 0, 1), (1271, .iload_n 3, 1), (1272, .iconst 1, 1), (1273, .iadd, 1), (1274, .iaload, 1), (1275, .invokevirtual 120, 3), (1278, .if_icmp .eq 864, 3), (1283, .aload_n 1, 1), (1284, .aload_n 0, 1), (1285, .iload_n 3, 1), (1286, .iconst 1, 1), (1287, .iadd, 1), (1288, .iaload, 1), (1289, .aload_n 0, 1), (1290, .iload_n 3, 1), (1291, .iconst 2, 1), (1292, .iadd, 1), (1293, .iaload, 1), (1294, .invokevirtual 121, 3), (1297, .aload_n 2, 1), (1298, .aload_n 0, 1), (1299, .iload_n 3, 1), (1300, .iconst 1, 1), (1301, .iadd, 1), (1302, .iaload, 1), (1303, .aload_n 0, 1), (1304, .iload_n 3, 1), (1305, .iconst 2, 1), (1306, .iadd, 1), (1307, .iaload, 1), (1308, .invokevirtual 124, 3), (1311, .if_icmp .eq 831, 3), (1316, .aload_n 1, 1), (1317, .aload_n 0, 1), (1318, .iload_n 3, 1), (1319, .iconst 1, 1), (1320, .iadd, 1), (1321, .iaload, 1), (1322, .aload_n 0, 1), (1323, .iload_n 3, 1), (1324, .iconst 2, 1), (1325, .iadd, 1), (1326, .iaload, 1), (1327, .aload_n 0, 1), (1328, .iload_n 3, 1), (1329, .iconst 3, 1), (1330, .iadd, 1), (1331, .iaload, 1), (1332, .ifCond .eq 7, 3), (1335, .iconst 1, 1), (1336, .goto 4, 3), (1339, .iconst 0, 1), (1340, .invokevirtual 125, 3), (1343, .aload_n 2, 1), (1344, .aload_n 0, 1), (1345, .iload_n 3, 1), (1346, .iconst 1, 1), (1347, .iadd, 1), (1348, .iaload, 1), (1349, .aload_n 0, 1), (1350, .iload_n 3, 1), (1351, .iconst 2, 1), (1352, .iadd, 1), (1353, .iaload, 1), (1354, .aload_n 0, 1), (1355, .iload_n 3, 1), (1356, .iconst 3, 1), (1357, .iadd, 1), (1358, .iaload, 1), (1359, .ifCond .eq 7, 3), (1362, .iconst 1, 1), (1363, .goto 4, 3), (1366, .iconst 0, 1), (1367, .invokevirtual 128, 3)]
set_option maxRecDepth 20000 in
theorem dl_0_8_ok : dl_0_8.all (fun q => decide (decode code q.1 = .ok (q.2.1, q.2.2))) = true := by decide +kernel
def dl_0_9 : List (Nat × Instr × Nat) := [(1370, .if_icmp .eq 772, 3), (1375, .aload_n 1, 1), (1376, .aload_n 0, 1), (1377, .iload_n 3, 1), (1378, .iconst 1, 1), (1379, .iadd, 1), (1380, .iaload, 1), (1381, .aload_n 0, 1), (1382, .iload_n 3, 1), (1383, .iconst 2, 1), (1384, .iadd, 1), (1385, .iaload, 1), (1386, .ifCond .eq 7, 3), (1389, .iconst 1, 1), (1390, .goto 4, 3), (1393, .iconst 0, 1), (1394, .aload_n 0, 1), (1395, .iload_n 3, 1), (1396, .iconst 3, 1), (1397, .iadd, 1), (1398, .iaload, 1), (1399, .ifCond .eq 7, 3), (1402, .iconst 1, 1), (1403, .goto 4, 3), (1406, .iconst 0, 1), (1407, .invokevirtual 129, 3), (1410, .aload_n 2, 1), (1411, .aload_n 0, 1), (1412, .iload_n 3, 1), (1413, .iconst 1, 1), (1414, .iadd, 1), (1415, .iaload, 1), (1416, .aload_n 0, 1), (1417, .iload_n 3, 1), (1418, .iconst 2, 1), (1419, .iadd, 1), (1420, .iaload, 1), (1421, .ifCond .eq 7, 3), (1424, .iconst 1, 1), (1425, .goto 4, 3), (1428, .iconst 0, 1), (1429, .aload_n 0, 1), (1430, .iload_n 3, 1), (1431, .iconst 3, 1), (1432, .iadd, 1), (1433, .iaload, 1), (1434, .ifCond .eq 7, 3), (1437, .iconst 1, 1), (1438, .goto 4, 3), (1441, .iconst 0, 1), (1442, .invokevirtual 133, 3), (1445, .if_icmp .eq 697, 3), (1450, .aload_n 1, 1), (1451, .aload_n 0, 1), (1452, .iload_n 3, 1), (1453, .iconst 1, 1), (1454, .iadd, 1), (1455, .iaload, 1), (1456, .invokevirtual 134, 3), (1459, .aload_n 2, 1), (1460, .aload_n 0, 1), (1461, .iload_n 3, 1), (1462, .iconst 1, 1), (1463, .iadd, 1), (1464, .iaload, 1), (1465, .invokevirtual 137, 3), (1468, .if_icmp .eq 674, 3), (1473, .aload_n 1, 1), (1474, .aload_n 0, 1), (1475, .iload_n 3, 1), (1476, .iconst 1, 1), (1477, .iadd, 1), (1478, .iaload, 1), (1479, .invokevirtual 138, 3), (1482, .aload_n 2, 1), (1483, .aload_n 0, 1), (1484, .iload_n 3, 1), (1485, .iconst 1, 1), (1486, .iadd, 1), (1487, .iaload, 1), (1488, .invokevirtual 141, 3), (1491, .if_icmp .eq 651, 3), (1496, .aload_n 1, 1), (1497, .aload_n 0, 1), (1498, .iload_n 3, 1), (1499, .iconst 1, 1), (1500, .iadd, 1), (1501, .iaload, 1), (1502, .invokevirtual 142, 3), (1505, .aload_n 2, 1), (1506, .aload_n 0, 1), (1507, .iload_n 3, 1), (1508, .iconst 1, 1), (1509, .iadd, 1), (1510, .iaload, 1), (1511, .invokevirtual 145, 3), (1514, .if_icmp .eq 628, 3), (1519, .aload_n 1, 1), (1520, .aload_n 0, 1), (1521, .iload_n 3, 1)]
set_option maxRecDepth 20000 in
theorem dl_0_9_ok : dl_0_9.all (fun q => decide (decode code q.1 = .ok (q.2.1, q.2.2))) = true := by decide +kernel
def dl_0_10 : List (Nat × Instr × Nat) := [(1522, .iconst 1, 1), (1523, .iadd, 1), (1524, .iaload, 1), (1525, .aload_n 0, 1), (1526, .iload_n 3, 1), (1527, .iconst 2, 1), (1528, .iadd, 1), (1529, .iaload, 1), (1530, .aload_n 0, 1), (1531, .iload_n 3, 1), (1532, .iconst 3, 1), (1533, .iadd, 1), (1534, .iaload, 1), (1535, .invokevirtual 146, 3), (1538, .aload_n 2, 1), (1539, .aload_n 0, 1), (1540, .iload_n 3, 1), (1541, .iconst 1, 1), (1542, .iadd, 1), (1543, .iaload, 1), (1544, .aload_n 0, 1), (1545, .iload_n 3, 1), (1546, .iconst 2, 1), (1547, .iadd, 1), (1548, .iaload, 1), (1549, .aload_n 0, 1), (1550, .iload_n 3, 1), (1551, .iconst 3, 1), (1552, .iadd, 1), (1553, .iaload, 1), (1554, .invokevirtual 149, 3), (1557, .if_icmp .eq 585, 3), (1562, .aload_n 1, 1), (1563, .aload_n 0, 1), (1564, .iload_n 3, 1), (1565, .iconst 1, 1), (1566, .iadd, 1), (1567, .iaload, 1), (1568, .aload_n 0, 1), (1569, .iload_n 3, 1), (1570, .iconst 2, 1), (1571, .iadd, 1), (1572, .iaload, 1), (1573, .invokevirtual 150, 3), (1576, .aload_n 2, 1), (1577, .aload_n 0, 1), (1578, .iload_n 3, 1), (1579, .iconst 1, 1), (1580, .iadd, 1), (1581, .iaload, 1), (1582, .aload_n 0, 1), (1583, .iload_n 3, 1), (1584, .iconst 2, 1), (1585, .iadd, 1), (1586, .iaload, 1), (1587, .invokevirtual 153, 3), (1590, .if_icmp .eq 552, 3), (1595, .aload_n 1, 1), (1596, .aload_n 0, 1), (1597, .iload_n 3, 1), (1598, .iconst 1, 1), (1599, .iadd, 1), (1600, .iaload, 1), (1601, .aload_n 0, 1), (1602, .iload_n 3, 1), (1603, .iconst 2, 1), (1604, .iadd, 1), (1605, .iaload, 1), (1606, .aload_n 0, 1), (1607, .iload_n 3, 1), (1608, .iconst 3, 1), (1609, .iadd, 1), (1610, .iaload, 1), (1611, .invokevirtual 154, 3), (1614, .aload_n 2, 1), (1615, .aload_n 0, 1), (1616, .iload_n 3, 1), (1617, .iconst 1, 1), (1618, .iadd, 1), (1619, .iaload, 1), (1620, .aload_n 0, 1), (1621, .iload_n 3, 1), (1622, .iconst 2, 1), (1623, .iadd, 1), (1624, .iaload, 1), (1625, .aload_n 0, 1), (1626, .iload_n 3, 1), (1627, .iconst 3, 1), (1628, .iadd, 1), (1629, .iaload, 1), (1630, .invokevirtual 157, 3), (1633, .if_icmp .eq 509, 3), (1638, .aload_n 1, 1), (1639, .aload_n 0, 1), (1640, .iload_n 3, 1), (1641, .iconst 1, 1), (1642, .iadd, 1), (1643, .iaload, 1), (1644, .invokevirtual 158, 3), (1647, .aload_n 2, 1)]
set_option maxRecDepth 20000 in
theorem dl_0_10_ok : dl_0_10.all (fun q => decide (decode code q.1 = .ok (q.2.1, q.2.2))) = true := by decide +kernel
def dl_0_11 : List (Nat × Instr × Nat) := [(1648, .aload_n 0, 1), (1649, .iload_n 3, 1), (1650, .iconst 1, 1), (1651, .iadd, 1), (1652, .iaload, 1), (1653, .invokevirtual 161, 3), (1656, .if_icmp .eq 486, 3), (1661, .aload_n 1, 1), (1662, .aload_n 0, 1), (1663, .iload_n 3, 1), (1664, .iconst 1, 1), (1665, .iadd, 1), (1666, .iaload, 1), (1667, .invokevirtual 162, 3), (1670, .aload_n 2, 1), (1671, .aload_n 0, 1), (1672, .iload_n 3, 1), (1673, .iconst 1, 1), (1674, .iadd, 1), (1675, .iaload, 1), (1676, .invokevirtual 165, 3), (1679, .if_icmp .eq 463, 3), (1684, .aload_n 1, 1), (1685, .invokevirtual 166, 3), (1688, .aload_n 2, 1), (1689, .invokevirtual 169, 3), (1692, .if_icmp .eq 450, 3), (1697, .aload_n 1, 1), (1698, .aload_n 0, 1), (1699, .iload_n 3, 1), (1700, .iconst 1, 1), (1701, .iadd, 1), (1702, .iaload, 1), (1703, .aload_n 0, 1), (1704, .iload_n 3, 1), (1705, .iconst 2, 1), (1706, .iadd, 1), (1707, .iaload, 1), (1708, .invokevirtual 170, 3), (1711, .aload_n 2, 1), (1712, .aload_n 0, 1), (1713, .iload_n 3, 1), (1714, .iconst 1, 1), (1715, .iadd, 1), (1716, .iaload, 1), (1717, .aload_n 0, 1), (1718, .iload_n 3, 1), (1719, .iconst 2, 1), (1720, .iadd, 1), (1721, .iaload, 1), (1722, .invokevirtual 173, 3), (1725, .if_icmp .eq 417, 3), (1730, .aload_n 1, 1), (1731, .aload_n 0, 1), (1732, .iload_n 3, 1), (1733, .iconst 1, 1), (1734, .iadd, 1), (1735, .iaload, 1), (1736, .aload_n 0, 1), (1737, .iload_n 3, 1), (1738, .iconst 2, 1), (1739, .iadd, 1), (1740, .iaload, 1), (1741, .invokevirtual 174, 3), (1744, .aload_n 2, 1), (1745, .aload_n 0, 1), (1746, .iload_n 3, 1), (1747, .iconst 1, 1), (1748, .iadd, 1), (1749, .iaload, 1), (1750, .aload_n 0, 1), (1751, .iload_n 3, 1), (1752, .iconst 2, 1), (1753, .iadd, 1), (1754, .iaload, 1), (1755, .invokevirtual 177, 3), (1758, .if_icmp .eq 384, 3), (1763, .aload_n 1, 1), (1764, .aload_n 0, 1), (1765, .iload_n 3, 1), (1766, .iconst 1, 1), (1767, .iadd, 1), (1768, .iaload, 1), (1769, .aload_n 0, 1), (1770, .iload_n 3, 1), (1771, .iconst 2, 1), (1772, .iadd, 1), (1773, .iaload, 1), (1774, .aload_n 0, 1), (1775, .iload_n 3, 1), (1776, .iconst 3, 1), (1777, .iadd, 1), (1778, .iaload, 1), (1779, .invokevirtual 178, 3), (1782, .aload_n 2, 1), (1783, .aload_n 0, 1), (1784, .iload_n 3, 1), (1785, .iconst 1, 1), (1786, .iadd, 1), (1787, .iaload, 1)]
set_option maxRecDepth 20000 in
theorem dl_0_11_ok : dl_0_11.all (fun q => decide (decode code q.1 = .ok (q.2.1, q.2.2))) = true := by decide +kernel
def dl_0_12 : List (Nat × Instr × Nat) := [(1788, .aload_n 0, 1), (1789, .iload_n 3, 1), (1790, .iconst 2, 1), (1791, .iadd, 1), (1792, .iaload, 1), (1793, .aload_n 0, 1), (1794, .iload_n 3, 1), (1795, .iconst 3, 1), (1796, .iadd, 1), (1797, .iaload, 1), (1798, .invokevirtual 181, 3), (1801, .if_icmp .eq 341, 3), (1806, .aload_n 1, 1), (1807, .aload_n 0, 1), (1808, .iload_n 3, 1), (1809, .iconst 1, 1), (1810, .iadd, 1), (1811, .iaload, 1), (1812, .aload_n 0, 1), (1813, .iload_n 3, 1), (1814, .iconst 2, 1), (1815, .iadd, 1), (1816, .iaload, 1), (1817, .invokevirtual 182, 3), (1820, .aload_n 2, 1), (1821, .aload_n 0, 1), (1822, .iload_n 3, 1), (1823, .iconst 1, 1), (1824, .iadd, 1), (1825, .iaload, 1), (1826, .aload_n 0, 1), (1827, .iload_n 3, 1), (1828, .iconst 2, 1), (1829, .iadd, 1), (1830, .iaload, 1), (1831, .invokevirtual 185, 3), (1834, .if_icmp .eq 308, 3), (1839, .aload_n 1, 1), (1840, .aload_n 0, 1), (1841, .iload_n 3, 1), (1842, .iconst 1, 1), (1843, .iadd, 1), (1844, .iaload, 1), (1845, .aload_n 0, 1), (1846, .iload_n 3, 1), (1847, .iconst 2, 1), (1848, .iadd, 1), (1849, .iaload, 1), (1850, .invokevirtual 186, 3), (1853, .aload_n 2, 1), (1854, .aload_n 0, 1), (1855, .iload_n 3, 1), (1856, .iconst 1, 1), (1857, .iadd, 1), (1858, .iaload, 1), (1859, .aload_n 0, 1), (1860, .iload_n 3, 1), (1861, .iconst 2, 1), (1862, .iadd, 1), (1863, .iaload, 1), (1864, .invokevirtual 189, 3), (1867, .if_icmp .eq 275, 3), (1872, .aload_n 1, 1), (1873, .aload_n 0, 1), (1874, .iload_n 3, 1), (1875, .iconst 1, 1), (1876, .iadd, 1), (1877, .iaload, 1), (1878, .aload_n 0, 1), (1879, .iload_n 3, 1), (1880, .iconst 2, 1), (1881, .iadd, 1), (1882, .iaload, 1), (1883, .invokevirtual 190, 3), (1886, .aload_n 2, 1), (1887, .aload_n 0, 1), (1888, .iload_n 3, 1), (1889, .iconst 1, 1), (1890, .iadd, 1), (1891, .iaload, 1), (1892, .aload_n 0, 1), (1893, .iload_n 3, 1), (1894, .iconst 2, 1), (1895, .iadd, 1), (1896, .iaload, 1), (1897, .invokevirtual 193, 3), (1900, .if_icmp .eq 242, 3), (1905, .aload_n 1, 1), (1906, .aload_n 0, 1), (1907, .iload_n 3, 1), (1908, .iconst 1, 1), (1909, .iadd, 1), (1910, .iaload, 1), (1911, .aload_n 0, 1), (1912, .iload_n 3, 1), (1913, .iconst 2, 1), (1914, .iadd, 1), (1915, .iaload, 1), (1916, .invokevirtual 194, 3), (1919, .aload_n 2, 1)]
set_option maxRecDepth 20000 in
theorem dl_0_12_ok : dl_0_12.all (fun q => decide (decode code q.1 = .ok (q.2.1, q.2.2))) = true := by decide +kernel
def dl_0_13 : List (Nat × Instr × Nat) := [(1920, .aload_n 0, 1), (1921, .iload_n 3, 1), (1922, .iconst 1, 1), (1923, .iadd, 1), (1924, .iaload, 1), (1925, .aload_n 0, 1), (1926, .iload_n 3, 1), (1927, .iconst 2, 1), (1928, .iadd, 1), (1929, .iaload, 1), (1930, .invokevirtual 197, 3), (1933, .if_icmp .eq 209, 3), (1938, .aload_n 1, 1), (1939, .aload_n 0, 1), (1940, .iload_n 3, 1), (1941, .iconst 1, 1), (1942, .iadd, 1), (1943, .iaload, 1), (1944, .invokevirtual 198, 3), (1947, .aload_n 2, 1), (1948, .aload_n 0, 1), (1949, .iload_n 3, 1), (1950, .iconst 1, 1), (1951, .iadd, 1), (1952, .iaload, 1), (1953, .invokevirtual 201, 3), (1956, .if_icmp .eq 186, 3), (1961, .aload_n 1, 1), (1962, .aload_n 0, 1), (1963, .iload_n 3, 1), (1964, .iconst 1, 1), (1965, .iadd, 1), (1966, .iaload, 1), (1967, .aload_n 0, 1), (1968, .iload_n 3, 1), (1969, .iconst 2, 1), (1970, .iadd, 1), (1971, .iaload, 1), (1972, .invokevirtual 202, 3), (1975, .aload_n 2, 1), (1976, .aload_n 0, 1), (1977, .iload_n 3, 1), (1978, .iconst 1, 1), (1979, .iadd, 1), (1980, .iaload, 1), (1981, .aload_n 0, 1), (1982, .iload_n 3, 1), (1983, .iconst 2, 1), (1984, .iadd, 1), (1985, .iaload, 1), (1986, .invokevirtual 205, 3), (1989, .if_icmp .eq 153, 3), (1994, .aload_n 1, 1), (1995, .aload_n 0, 1), (1996, .iload_n 3, 1), (1997, .iconst 1, 1), (1998, .iadd, 1), (1999, .iaload, 1), (2000, .invokevirtual 206, 3), (2003, .aload_n 2, 1), (2004, .aload_n 0, 1), (2005, .iload_n 3, 1), (2006, .iconst 1, 1), (2007, .iadd, 1), (2008, .iaload, 1), (2009, .invokevirtual 209, 3), (2012, .if_icmp .eq 130, 3), (2017, .aload_n 1, 1), (2018, .invokevirtual 210, 3), (2021, .aload_n 2, 1), (2022, .invokevirtual 213, 3), (2025, .if_icmp .eq 117, 3), (2030, .aload_n 1, 1), (2031, .aload_n 0, 1), (2032, .iload_n 3, 1), (2033, .iconst 1, 1), (2034, .iadd, 1), (2035, .iaload, 1), (2036, .aload_n 0, 1), (2037, .iload_n 3, 1), (2038, .iconst 2, 1), (2039, .iadd, 1), (2040, .iaload, 1), (2041, .invokevirtual 214, 3), (2044, .aload_n 2, 1), (2045, .aload_n 0, 1), (2046, .iload_n 3, 1), (2047, .iconst 1, 1), (2048, .iadd, 1), (2049, .iaload, 1), (2050, .aload_n 0, 1), (2051, .iload_n 3, 1), (2052, .iconst 2, 1), (2053, .iadd, 1), (2054, .iaload, 1), (2055, .invokevirtual 217, 3), (2058, .if_icmp .eq 84, 3), (2063, .aload_n 1, 1), (2064, .aload_n 0, 1), (2065, .iload_n 3, 1)]
set_option maxRecDepth 20000 in
theorem dl_0_13_ok : dl_0_13.all (fun q => decide (decode code q.1 = .ok (q.2.1, q.2.2))) = true := by decide +kernel
def dl_0_14 : List (Nat × Instr × Nat) := [(2066, .iconst 1, 1), (2067, .iadd, 1), (2068, .iaload, 1), (2069, .aload_n 0, 1), (2070, .iload_n 3, 1), (2071, .iconst 2, 1), (2072, .iadd, 1), (2073, .iaload, 1), (2074, .invokevirtual 218, 3), (2077, .aload_n 2, 1), (2078, .aload_n 0, 1), (2079, .iload_n 3, 1), (2080, .iconst 1, 1), (2081, .iadd, 1), (2082, .iaload, 1), (2083, .aload_n 0, 1), (2084, .iload_n 3, 1), (2085, .iconst 2, 1), (2086, .iadd, 1), (2087, .iaload, 1), (2088, .invokevirtual 221, 3), (2091, .if_icmp .eq 51, 3), (2096, .aload_n 1, 1), (2097, .aload_n 0, 1), (2098, .iload_n 3, 1), (2099, .iconst 1, 1), (2100, .iadd, 1), (2101, .iaload, 1), (2102, .invokevirtual 222, 3), (2105, .aload_n 2, 1), (2106, .aload_n 0, 1), (2107, .iload_n 3, 1), (2108, .iconst 1, 1), (2109, .iadd, 1), (2110, .iaload, 1), (2111, .invokevirtual 225, 3), (2114, .if_icmp .eq 28, 3), (2119, .aload_n 1, 1), (2120, .aload_n 0, 1), (2121, .iload_n 3, 1), (2122, .iconst 1, 1), (2123, .iadd, 1), (2124, .iaload, 1), (2125, .invokevirtual 226, 3), (2128, .aload_n 2, 1), (2129, .aload_n 0, 1), (2130, .iload_n 3, 1), (2131, .iconst 1, 1), (2132, .iadd, 1), (2133, .iaload, 1), (2134, .invokevirtual 229, 3), (2137, .if_icmp .eq 5, 3), (2142, .iinc 3 6, 3), (2145, .goto (-2127), 3), (2148, .iconst 1, 1), (2149, .ireturn, 1)]
set_option maxRecDepth 20000 in
theorem dl_0_14_ok : dl_0_14.all (fun q => decide (decode code q.1 = .ok (q.2.1, q.2.2))) = true := by decide +kernel
def tb_0_0 : Nat → xE := (x_T 18 (x_T 8 (x_T 3 (x_T 0 (x_L 0 (0, xi_new (x_nc 11 ks_X11) (xm_c m_0) (xm_s m_0) 3, 0, 0)) (x_L 3 (0, xi_stk xf_dup 4, 0, 0))) (x_T 4 (x_L 4 (2, x_nof, 40, 1)) (x_T 7 (x_L 7 (0, xi_stor 1 2 8, 0, 0)) (x_L 8 (0, xi_new (x_nc 12 ks_X12) (xm_c m_0) (xm_s m_0) 11, 0, 0))))) (x_T 15 (x_T 11 (x_L 11 (0, xi_stk xf_dup 12, 0, 0)) (x_T 12 (x_L 12 (2, x_nof, 102, 1)) (x_L 15 (0, xi_stor 2 2 16, 0, 0)))) (x_T 16 (x_L 16 (0, xi_push (0, 0, 0) 17, 0, 0)) (x_T 17 (x_L 17 (0, xi_stor 3 0 18, 0, 0)) (x_L 18 (0, xi_load 3 0 19, 0, 0)))))) (x_T 24 (x_T 20 (x_T 19 (x_L 19 (0, xi_load 0 2 20, 0, 0)) (x_L 20 (0, xi_slen 21, 0, 0))) (x_T 21 (x_L 21 (0, xi_push (0, 6, 6) 23, 0, 0)) (x_T 23 (x_L 23 (0, xi_or (x_top2 (3, 15, 0) (0, 6, 6)) (xi_bT (3, 15, 0) (0, 6, 6) 16 xG_sub 24) (xi_bin xF_sub 24), 0, 0)) (x_L 24 (0, xi_if2 4 2148 27, 0, 0))))) (x_T 29 (x_T 27 (x_L 27 (0, xi_load 0 2 28, 0, 0)) (x_T 28 (x_L 28 (0, xi_load 3 0 29, 0, 0)) (x_L 29 (0, xi_sld 30, 0, 0)))) (x_T 30 (x_L 30 (0, xi_push (0, 63, 63) 32, 0, 0)) (x_T 32 (x_L 32 (0, xi_bin xF_and63 33, 0, 0)) (x_L 33 (0, xi_sw [((-2147483648), (-1), 2142), (0, 0, 256), (1, 1, 319), (2, 2, 342), (3, 3, 355), (4, 4, 408), (5, 5, 471), (6, 6, 524), (7, 7, 567), (8, 8, 610), (9, 9, 663), (10, 10, 706), (11, 11, 769), (12, 12, 802), (13, 13, 855), (14, 14, 898), (15, 15, 941), (16, 16, 1004), (17, 17, 1037), (18, 18, 1060), (19, 19, 1109), (20, 20, 1168), (21, 21, 1191), (22, 22, 1214), (23, 23, 1227), (24, 24, 1260), (25, 25, 1283), (26, 26, 1316), (27, 27, 1375), (28, 28, 1450), (29, 29, 1473), (30, 30, 1496), (31, 31, 1519), (32, 32, 1562), (33, 33, 1595), (34, 34, 1638), (35, 35, 1661), (36, 36, 1684), (37, 37, 1697), (38, 38, 1730), (39, 39, 1763), (40, 40, 1806), (41, 41, 1839), (42, 42, 1872), (43, 43, 1905), (44, 44, 1938), (45, 45, 1961), (46, 46, 1994), (47, 47, 2017), (48, 48, 2030), (49, 49, 2063), (50, 50, 2096), (51, 51, 2119), (52, 2147483647, 2142)], 0, 0)))))))
set_option maxRecDepth 20000 in
set_option maxHeartbeats 4000000 in
theorem tb_0_0_ok (K : xKx) (hK : x_KP K) (hS : ∀ R s A H V sc, K R s A H V sc → x_Scr R s A H V sc) : ∀ pc, x_EOq cls K xI m_0 pc (tb_0_0 pc) :=
  (x_Tok2
  (x_Tok2
  (x_Tok2
  (x_Tok2
  (x_Lok (x_st (I := xI) (xr_new (ci := 11) (ix := 7) (N := 15) (C := RX11) (T := TX11) (ty0 := tyX11) (ks := ks_X11) rfl in_X11 tyX11_ok (in_t1 (List.mem_of_getElem? (i := 21) rfl) rfl) (in_t1 (List.mem_of_getElem? (i := 22) rfl) rfl) (in_t1 (List.mem_of_getElem? (i := 1) rfl) rfl) rfl df_X11 (x_dk dl_0_0_ok 0 rfl))))
  (x_Lok (x_st (I := xI) (xr_dup (x_dk dl_0_0_ok 1 rfl)))))
  (x_Tok2
  (x_Lok (x_ca (I := xI) (q' := m_40) rfl (xr_callI (q' := m_40) (ix := 9) (n := 0) (in_t1 (List.mem_of_getElem? (i := 25) rfl) rfl) good_w (in_t1 (List.mem_of_getElem? (i := 1) rfl) rfl) (in_t1 (List.mem_of_getElem? (i := 23) rfl) rfl) (in_t1 (List.mem_of_getElem? (i := 24) rfl) rfl) rfl rfl (by decide +kernel) (by decide +kernel) (by decide +kernel) (x_dk dl_0_0_ok 2 rfl))))
  (x_Tok2
  (x_Lok (x_st (I := xI) (xr_astore_n (i := 1) (x_dk dl_0_0_ok 3 rfl) (by decide +kernel))))
  (x_Lok (x_st (I := xI) (xr_new (ci := 12) (ix := 10) (N := 119) (C := RX12) (T := TX12) (ty0 := tyX12) (ks := ks_X12) rfl in_X12 tyX12_ok (in_t9 (List.mem_of_getElem? (i := 80) rfl) rfl) (in_t9 (List.mem_of_getElem? (i := 81) rfl) rfl) (in_t1 (List.mem_of_getElem? (i := 14) rfl) rfl) rfl df_X12 (x_dk dl_0_0_ok 4 rfl)))))))
  (x_Tok2
  (x_Tok2
  (x_Lok (x_st (I := xI) (xr_dup (x_dk dl_0_0_ok 5 rfl))))
  (x_Tok2
  (x_Lok (x_ca (I := xI) (q' := m_102) rfl (xr_callI (q' := m_102) (ix := 12) (n := 0) (in_t9 (List.mem_of_getElem? (i := 84) rfl) rfl) good_w (in_t1 (List.mem_of_getElem? (i := 14) rfl) rfl) (in_t9 (List.mem_of_getElem? (i := 82) rfl) rfl) (in_t9 (List.mem_of_getElem? (i := 83) rfl) rfl) rfl rfl (by decide +kernel) (by decide +kernel) (by decide +kernel) (x_dk dl_0_0_ok 6 rfl))))
  (x_Lok (x_st (I := xI) (xr_astore_n (i := 2) (x_dk dl_0_0_ok 7 rfl) (by decide +kernel))))))
  (x_Tok2
  (x_Lok (x_st (I := xI) (xr_iconst (n := 0) (z := 0) (v := 0) (x_dk dl_0_0_ok 8 rfl) (by decide) (by decide))))
  (x_Tok2
  (x_Lok (x_st (I := xI) (xr_istore_n (i := 3) (x_dk dl_0_0_ok 9 rfl) (by decide +kernel))))
  (x_Lok (x_st (I := xI) (xr_iload_n (i := 3) (x_dk dl_0_0_ok 10 rfl))))))))
  (x_Tok2
  (x_Tok2
  (x_Tok2
  (x_Lok (x_st (I := xI) (xr_aload_n (i := 0) (x_dk dl_0_0_ok 11 rfl))))
  (x_Lok (x_st (I := xI) (xr_slen hS (x_dk dl_0_0_ok 12 rfl)))))
  (x_Tok2
  (x_Lok (x_st (I := xI) (xr_bipush (n := 6) (z := 6) (v := 6) (x_dk dl_0_0_ok 13 rfl) (by decide) (by decide))))
  (x_Tok2
  (x_Lok (x_st (I := xI) (xi_or_ok (xr_tsubI (px := (3, 15, 0)) (py := (0, 6, 6)) (c := 16) (x_dk dl_0_0_ok 14 rfl) (x_hV2 (px := (3, 15, 0)) (py := (0, 6, 6)) (c := 16) (fun x y => x - y) hK rfl rfl (by decide) (fun f h => by unfold x_fR at h; show f 16 = f 15 - 6; omega))) (xr_isub (x_dk dl_0_0_ok 14 rfl)))))
  (x_Lok (x_st (I := xI) (xr_icmpgt (off := 2124) (tg := 2148) (x_dk dl_0_0_ok 15 rfl) (by decide)))))))
  (x_Tok2
  (x_Tok2
  (x_Lok (x_st (I := xI) (xr_aload_n (i := 0) (x_dk dl_0_0_ok 16 rfl))))
  (x_Tok2
  (x_Lok (x_st (I := xI) (xr_iload_n (i := 3) (x_dk dl_0_0_ok 17 rfl))))
  (x_Lok (x_st (I := xI) (xr_sld hS (x_dk dl_0_0_ok 18 rfl))))))
  (x_Tok2
  (x_Lok (x_st (I := xI) (xr_bipush (n := 63) (z := 63) (v := 63) (x_dk dl_0_0_ok 19 rfl) (by decide) (by decide))))
  (x_Tok2
  (x_Lok (x_st (I := xI) (xr_iand (x_dk dl_0_0_ok 20 rfl))))
  (x_Lok (x_st (I := xI) (xr_tswB (dflt := 2109) (lo := 0) (hi := 51) (offs := #[223, 286, 309, 322, 375, 438, 491, 534, 577, 630, 673, 736, 769, 822, 865, 908, 971, 1004, 1027, 1076, 1135, 1158, 1181, 1194, 1227, 1250, 1283, 1342, 1417, 1440, 1463, 1486, 1529, 1562, 1605, 1628, 1651, 1664, 1697, 1730, 1773, 1806, 1839, 1872, 1905, 1928, 1961, 1984, 1997, 2030, 2063, 2086]) (len := 223) (n := 52) (x_dk dl_0_0_ok 21 rfl) (by decide) (by decide +kernel)))))))))
def tb_0_22 : Nat → xE := (x_T 266 (x_T 260 (x_T 257 (x_T 256 (x_L 256 (0, xi_load 1 2 257, 0, 0)) (x_L 257 (0, xi_load 0 2 258, 0, 0))) (x_T 258 (x_L 258 (0, xi_load 3 0 259, 0, 0)) (x_T 259 (x_L 259 (0, xi_push (0, 1, 1) 260, 0, 0)) (x_L 260 (0, xi_bin xF_add 261, 0, 0))))) (x_T 263 (x_T 261 (x_L 261 (0, xi_sld 262, 0, 0)) (x_T 262 (x_L 262 (0, xi_load 0 2 263, 0, 0)) (x_L 263 (0, xi_load 3 0 264, 0, 0)))) (x_T 264 (x_L 264 (0, xi_push (0, 2, 2) 265, 0, 0)) (x_T 265 (x_L 265 (0, xi_bin xF_add 266, 0, 0)) (x_L 266 (0, xi_sld 267, 0, 0)))))) (x_T 272 (x_T 269 (x_T 267 (x_L 267 (0, xi_load 0 2 268, 0, 0)) (x_T 268 (x_L 268 (0, xi_load 3 0 269, 0, 0)) (x_L 269 (0, xi_push (0, 3, 3) 270, 0, 0)))) (x_T 270 (x_L 270 (0, xi_bin xF_add 271, 0, 0)) (x_T 271 (x_L 271 (0, xi_sld 272, 0, 0)) (x_L 272 (0, xi_load 0 2 273, 0, 0))))) (x_T 275 (x_T 273 (x_L 273 (0, xi_load 3 0 274, 0, 0)) (x_T 274 (x_L 274 (0, xi_push (0, 4, 4) 275, 0, 0)) (x_L 275 (0, xi_bin xF_add 276, 0, 0)))) (x_T 276 (x_L 276 (0, xi_sld 277, 0, 0)) (x_T 277 (x_L 277 (0, xi_load 0 2 278, 0, 0)) (x_L 278 (0, xi_load 3 0 279, 0, 0)))))))
set_option maxRecDepth 20000 in
set_option maxHeartbeats 4000000 in
theorem tb_0_22_ok (K : xKx) (hK : x_KP K) (hS : ∀ R s A H V sc, K R s A H V sc → x_Scr R s A H V sc) : ∀ pc, x_EOq cls K xI m_0 pc (tb_0_22 pc) :=
  (x_Tok2
  (x_Tok2
  (x_Tok2
  (x_Tok2
  (x_Lok (x_st (I := xI) (xr_aload_n (i := 1) (x_dk dl_0_0_ok 22 rfl))))
  (x_Lok (x_st (I := xI) (xr_aload_n (i := 0) (x_dk dl_0_0_ok 23 rfl)))))
  (x_Tok2
  (x_Lok (x_st (I := xI) (xr_iload_n (i := 3) (x_dk dl_0_0_ok 24 rfl))))
  (x_Tok2
  (x_Lok (x_st (I := xI) (xr_iconst (n := 1) (z := 1) (v := 1) (x_dk dl_0_0_ok 25 rfl) (by decide) (by decide))))
  (x_Lok (x_st (I := xI) (xr_iadd (x_dk dl_0_0_ok 26 rfl)))))))
  (x_Tok2
  (x_Tok2
  (x_Lok (x_st (I := xI) (xr_sld hS (x_dk dl_0_0_ok 27 rfl))))
  (x_Tok2
  (x_Lok (x_st (I := xI) (xr_aload_n (i := 0) (x_dk dl_0_0_ok 28 rfl))))
  (x_Lok (x_st (I := xI) (xr_iload_n (i := 3) (x_dk dl_0_0_ok 29 rfl))))))
  (x_Tok2
  (x_Lok (x_st (I := xI) (xr_iconst (n := 2) (z := 2) (v := 2) (x_dk dl_0_0_ok 30 rfl) (by decide) (by decide))))
  (x_Tok2
  (x_Lok (x_st (I := xI) (xr_iadd (x_dk dl_0_0_ok 31 rfl))))
  (x_Lok (x_st (I := xI) (xr_sld hS (x_dk dl_0_0_ok 32 rfl))))))))
  (x_Tok2
  (x_Tok2
  (x_Tok2
  (x_Lok (x_st (I := xI) (xr_aload_n (i := 0) (x_dk dl_0_0_ok 33 rfl))))
  (x_Tok2
  (x_Lok (x_st (I := xI) (xr_iload_n (i := 3) (x_dk dl_0_0_ok 34 rfl))))
  (x_Lok (x_st (I := xI) (xr_iconst (n := 3) (z := 3) (v := 3) (x_dk dl_0_0_ok 35 rfl) (by decide) (by decide))))))
  (x_Tok2
  (x_Lok (x_st (I := xI) (xr_iadd (x_dk dl_0_0_ok 36 rfl))))
  (x_Tok2
  (x_Lok (x_st (I := xI) (xr_sld hS (x_dk dl_0_0_ok 37 rfl))))
  (x_Lok (x_st (I := xI) (xr_aload_n (i := 0) (x_dk dl_0_0_ok 38 rfl)))))))
  (x_Tok2
  (x_Tok2
  (x_Lok (x_st (I := xI) (xr_iload_n (i := 3) (x_dk dl_0_0_ok 39 rfl))))
  (x_Tok2
  (x_Lok (x_st (I := xI) (xr_iconst (n := 4) (z := 4) (v := 4) (x_dk dl_0_0_ok 40 rfl) (by decide) (by decide))))
  (x_Lok (x_st (I := xI) (xr_iadd (x_dk dl_0_0_ok 41 rfl))))))
  (x_Tok2
  (x_Lok (x_st (I := xI) (xr_sld hS (x_dk dl_0_0_ok 42 rfl))))
  (x_Tok2
  (x_Lok (x_st (I := xI) (xr_aload_n (i := 0) (x_dk dl_0_0_ok 43 rfl))))
  (x_Lok (x_st (I := xI) (xr_iload_n (i := 3) (x_dk dl_0_0_ok 44 rfl)))))))))
def tb_0_45 : Nat → xE := (x_T 291 (x_T 285 (x_T 280 (x_T 279 (x_L 279 (0, xi_push (0, 5, 5) 280, 0, 0)) (x_L 280 (0, xi_bin xF_add 281, 0, 0))) (x_T 281 (x_L 281 (0, xi_sld 282, 0, 0)) (x_T 282 (x_L 282 (2, x_nof, 41, 6)) (x_L 285 (0, xi_load 2 2 286, 0, 0))))) (x_T 288 (x_T 286 (x_L 286 (0, xi_load 0 2 287, 0, 0)) (x_T 287 (x_L 287 (0, xi_load 3 0 288, 0, 0)) (x_L 288 (0, xi_push (0, 1, 1) 289, 0, 0)))) (x_T 289 (x_L 289 (0, xi_bin xF_add 290, 0, 0)) (x_T 290 (x_L 290 (0, xi_sld 291, 0, 0)) (x_L 291 (0, xi_load 0 2 292, 0, 0)))))) (x_T 297 (x_T 294 (x_T 292 (x_L 292 (0, xi_load 3 0 293, 0, 0)) (x_T 293 (x_L 293 (0, xi_push (0, 2, 2) 294, 0, 0)) (x_L 294 (0, xi_bin xF_add 295, 0, 0)))) (x_T 295 (x_L 295 (0, xi_sld 296, 0, 0)) (x_T 296 (x_L 296 (0, xi_load 0 2 297, 0, 0)) (x_L 297 (0, xi_load 3 0 298, 0, 0))))) (x_T 300 (x_T 298 (x_L 298 (0, xi_push (0, 3, 3) 299, 0, 0)) (x_T 299 (x_L 299 (0, xi_bin xF_add 300, 0, 0)) (x_L 300 (0, xi_sld 301, 0, 0)))) (x_T 301 (x_L 301 (0, xi_load 0 2 302, 0, 0)) (x_T 302 (x_L 302 (0, xi_load 3 0 303, 0, 0)) (x_L 303 (0, xi_push (0, 4, 4) 304, 0, 0)))))))
set_option maxRecDepth 20000 in
set_option maxHeartbeats 4000000 in
theorem tb_0_45_ok (K : xKx) (hK : x_KP K) (hS : ∀ R s A H V sc, K R s A H V sc → x_Scr R s A H V sc) : ∀ pc, x_EOq cls K xI m_0 pc (tb_0_45 pc) :=
  (x_Tok2
  (x_Tok2
  (x_Tok2
  (x_Tok2
  (x_Lok (x_st (I := xI) (xr_iconst (n := 5) (z := 5) (v := 5) (x_dk dl_0_0_ok 45 rfl) (by decide) (by decide))))
  (x_Lok (x_st (I := xI) (xr_iadd (x_dk dl_0_0_ok 46 rfl)))))
  (x_Tok2
  (x_Lok (x_st (I := xI) (xr_sld hS (x_dk dl_0_0_ok 47 rfl))))
  (x_Tok2
  (x_Lok (x_ca (I := xI) (q' := m_41) rfl (xr_callV (q' := m_41) (ix := 13) (n := 5) (in_t4 (List.mem_of_getElem? (i := 157) rfl) rfl) good_w (in_t1 (List.mem_of_getElem? (i := 1) rfl) rfl) (in_t4 (List.mem_of_getElem? (i := 154) rfl) rfl) (in_t4 (List.mem_of_getElem? (i := 155) rfl) rfl) (in_t4 (List.mem_of_getElem? (i := 156) rfl) rfl) (by decide +kernel) (by decide +kernel) (by decide +kernel) (x_dk dl_0_0_ok 48 rfl))))
  (x_Lok (x_st (I := xI) (xr_aload_n (i := 2) (x_dk dl_0_0_ok 49 rfl)))))))
  (x_Tok2
  (x_Tok2
  (x_Lok (x_st (I := xI) (xr_aload_n (i := 0) (x_dk dl_0_0_ok 50 rfl))))
  (x_Tok2
  (x_Lok (x_st (I := xI) (xr_iload_n (i := 3) (x_dk dl_0_0_ok 51 rfl))))
  (x_Lok (x_st (I := xI) (xr_iconst (n := 1) (z := 1) (v := 1) (x_dk dl_0_0_ok 52 rfl) (by decide) (by decide))))))
  (x_Tok2
  (x_Lok (x_st (I := xI) (xr_iadd (x_dk dl_0_0_ok 53 rfl))))
  (x_Tok2
  (x_Lok (x_st (I := xI) (xr_sld hS (x_dk dl_0_0_ok 54 rfl))))
  (x_Lok (x_st (I := xI) (xr_aload_n (i := 0) (x_dk dl_0_0_ok 55 rfl))))))))
  (x_Tok2
  (x_Tok2
  (x_Tok2
  (x_Lok (x_st (I := xI) (xr_iload_n (i := 3) (x_dk dl_0_0_ok 56 rfl))))
  (x_Tok2
  (x_Lok (x_st (I := xI) (xr_iconst (n := 2) (z := 2) (v := 2) (x_dk dl_0_0_ok 57 rfl) (by decide) (by decide))))
  (x_Lok (x_st (I := xI) (xr_iadd (x_dk dl_0_0_ok 58 rfl))))))
  (x_Tok2
  (x_Lok (x_st (I := xI) (xr_sld hS (x_dk dl_0_0_ok 59 rfl))))
  (x_Tok2
  (x_Lok (x_st (I := xI) (xr_aload_n (i := 0) (x_dk dl_0_0_ok 60 rfl))))
  (x_Lok (x_st (I := xI) (xr_iload_n (i := 3) (x_dk dl_0_0_ok 61 rfl)))))))
  (x_Tok2
  (x_Tok2
  (x_Lok (x_st (I := xI) (xr_iconst (n := 3) (z := 3) (v := 3) (x_dk dl_0_0_ok 62 rfl) (by decide) (by decide))))
  (x_Tok2
  (x_Lok (x_st (I := xI) (xr_iadd (x_dk dl_0_0_ok 63 rfl))))
  (x_Lok (x_st (I := xI) (xr_sld hS (x_dk dl_0_0_ok 64 rfl))))))
  (x_Tok2
  (x_Lok (x_st (I := xI) (xr_aload_n (i := 0) (x_dk dl_0_0_ok 65 rfl))))
  (x_Tok2
  (x_Lok (x_st (I := xI) (xr_iload_n (i := 3) (x_dk dl_0_0_ok 66 rfl))))
  (x_Lok (x_st (I := xI) (xr_iconst (n := 4) (z := 4) (v := 4) (x_dk dl_0_0_ok 67 rfl) (by decide) (by decide)))))))))
def tb_0_68 : Nat → xE := (x_T 320 (x_T 308 (x_T 305 (x_T 304 (x_L 304 (0, xi_bin xF_add 305, 0, 0)) (x_L 305 (0, xi_sld 306, 0, 0))) (x_T 306 (x_L 306 (0, xi_load 0 2 307, 0, 0)) (x_T 307 (x_L 307 (0, xi_load 3 0 308, 0, 0)) (x_L 308 (0, xi_push (0, 5, 5) 309, 0, 0))))) (x_T 311 (x_T 309 (x_L 309 (0, xi_bin xF_add 310, 0, 0)) (x_T 310 (x_L 310 (0, xi_sld 311, 0, 0)) (x_L 311 (2, x_nof, 111, 6)))) (x_T 314 (x_L 314 (0, xi_if2 0 2142 317, 0, 0)) (x_T 319 (x_L 319 (0, xi_load 1 2 320, 0, 0)) (x_L 320 (0, xi_load 0 2 321, 0, 0)))))) (x_T 328 (x_T 323 (x_T 321 (x_L 321 (0, xi_load 3 0 322, 0, 0)) (x_T 322 (x_L 322 (0, xi_push (0, 1, 1) 323, 0, 0)) (x_L 323 (0, xi_bin xF_add 324, 0, 0)))) (x_T 324 (x_L 324 (0, xi_sld 325, 0, 0)) (x_T 325 (x_L 325 (2, x_nof, 42, 2)) (x_L 328 (0, xi_load 2 2 329, 0, 0))))) (x_T 331 (x_T 329 (x_L 329 (0, xi_load 0 2 330, 0, 0)) (x_T 330 (x_L 330 (0, xi_load 3 0 331, 0, 0)) (x_L 331 (0, xi_push (0, 1, 1) 332, 0, 0)))) (x_T 332 (x_L 332 (0, xi_bin xF_add 333, 0, 0)) (x_T 333 (x_L 333 (0, xi_sld 334, 0, 0)) (x_L 334 (2, x_nof, 113, 2)))))))
set_option maxRecDepth 20000 in
set_option maxHeartbeats 4000000 in
theorem tb_0_68_ok (K : xKx) (hK : x_KP K) (hS : ∀ R s A H V sc, K R s A H V sc → x_Scr R s A H V sc) : ∀ pc, x_EOq cls K xI m_0 pc (tb_0_68 pc) :=
  (x_Tok2
  (x_Tok2
  (x_Tok2
  (x_Tok2
  (x_Lok (x_st (I := xI) (xr_iadd (x_dk dl_0_0_ok 68 rfl))))
  (x_Lok (x_st (I := xI) (xr_sld hS (x_dk dl_0_0_ok 69 rfl)))))
  (x_Tok2
  (x_Lok (x_st (I := xI) (xr_aload_n (i := 0) (x_dk dl_0_0_ok 70 rfl))))
  (x_Tok2
  (x_Lok (x_st (I := xI) (xr_iload_n (i := 3) (x_dk dl_0_0_ok 71 rfl))))
  (x_Lok (x_st (I := xI) (xr_iconst (n := 5) (z := 5) (v := 5) (x_dk dl_0_0_ok 72 rfl) (by decide) (by decide)))))))
  (x_Tok2
  (x_Tok2
  (x_Lok (x_st (I := xI) (xr_iadd (x_dk dl_0_0_ok 73 rfl))))
  (x_Tok2
  (x_Lok (x_st (I := xI) (xr_sld hS (x_dk dl_0_0_ok 74 rfl))))
  (x_Lok (x_ca (I := xI) (q' := m_111) rfl (xr_callV (q' := m_111) (ix := 17) (n := 5) (in_t10 (List.mem_of_getElem? (i := 236) rfl) rfl) good_w (in_t1 (List.mem_of_getElem? (i := 14) rfl) rfl) (in_t10 (List.mem_of_getElem? (i := 233) rfl) rfl) (in_t10 (List.mem_of_getElem? (i := 234) rfl) rfl) (in_t10 (List.mem_of_getElem? (i := 235) rfl) rfl) (by decide +kernel) (by decide +kernel) (by decide +kernel) (x_dk dl_0_0_ok 75 rfl))))))
  (x_Tok2
  (x_Lok (x_st (I := xI) (xr_icmpeq (off := 1828) (tg := 2142) (x_dk dl_0_0_ok 76 rfl) (by decide))))
  (x_Tok2
  (x_Lok (x_st (I := xI) (xr_aload_n (i := 1) (x_dk dl_0_0_ok 77 rfl))))
  (x_Lok (x_st (I := xI) (xr_aload_n (i := 0) (x_dk dl_0_0_ok 78 rfl))))))))
  (x_Tok2
  (x_Tok2
  (x_Tok2
  (x_Lok (x_st (I := xI) (xr_iload_n (i := 3) (x_dk dl_0_0_ok 79 rfl))))
  (x_Tok2
  (x_Lok (x_st (I := xI) (xr_iconst (n := 1) (z := 1) (v := 1) (x_dk dl_0_0_ok 80 rfl) (by decide) (by decide))))
  (x_Lok (x_st (I := xI) (xr_iadd (x_dk dl_0_0_ok 81 rfl))))))
  (x_Tok2
  (x_Lok (x_st (I := xI) (xr_sld hS (x_dk dl_0_0_ok 82 rfl))))
  (x_Tok2
  (x_Lok (x_ca (I := xI) (q' := m_42) rfl (xr_callV (q' := m_42) (ix := 18) (n := 1) (in_t4 (List.mem_of_getElem? (i := 165) rfl) rfl) good_w (in_t1 (List.mem_of_getElem? (i := 1) rfl) rfl) (in_t4 (List.mem_of_getElem? (i := 162) rfl) rfl) (in_t4 (List.mem_of_getElem? (i := 163) rfl) rfl) (in_t4 (List.mem_of_getElem? (i := 164) rfl) rfl) (by decide +kernel) (by decide +kernel) (by decide +kernel) (x_dk dl_0_0_ok 83 rfl))))
  (x_Lok (x_st (I := xI) (xr_aload_n (i := 2) (x_dk dl_0_0_ok 84 rfl)))))))
  (x_Tok2
  (x_Tok2
  (x_Lok (x_st (I := xI) (xr_aload_n (i := 0) (x_dk dl_0_0_ok 85 rfl))))
  (x_Tok2
  (x_Lok (x_st (I := xI) (xr_iload_n (i := 3) (x_dk dl_0_0_ok 86 rfl))))
  (x_Lok (x_st (I := xI) (xr_iconst (n := 1) (z := 1) (v := 1) (x_dk dl_0_0_ok 87 rfl) (by decide) (by decide))))))
  (x_Tok2
  (x_Lok (x_st (I := xI) (xr_iadd (x_dk dl_0_0_ok 88 rfl))))
  (x_Tok2
  (x_Lok (x_st (I := xI) (xr_sld hS (x_dk dl_0_0_ok 89 rfl))))
  (x_Lok (x_ca (I := xI) (q' := m_113) rfl (xr_callV (q' := m_113) (ix := 22) (n := 1) (in_t11 (List.mem_of_getElem? (i := 4) rfl) rfl) good_w (in_t1 (List.mem_of_getElem? (i := 14) rfl) rfl) (in_t11 (List.mem_of_getElem? (i := 1) rfl) rfl) (in_t11 (List.mem_of_getElem? (i := 2) rfl) rfl) (in_t11 (List.mem_of_getElem? (i := 3) rfl) rfl) (by decide +kernel) (by decide +kernel) (by decide +kernel) (x_dk dl_0_0_ok 90 rfl)))))))))
def tb_0_91 : Nat → xE := (x_T 359 (x_T 347 (x_T 342 (x_T 337 (x_L 337 (0, xi_if2 0 2142 340, 0, 0)) (x_L 342 (0, xi_load 1 2 343, 0, 0))) (x_T 343 (x_L 343 (2, x_nof, 43, 1)) (x_T 346 (x_L 346 (0, xi_load 2 2 347, 0, 0)) (x_L 347 (2, x_nof, 114, 1))))) (x_T 356 (x_T 350 (x_L 350 (0, xi_if2 0 2142 353, 0, 0)) (x_T 355 (x_L 355 (0, xi_load 1 2 356, 0, 0)) (x_L 356 (0, xi_load 0 2 357, 0, 0)))) (x_T 357 (x_L 357 (0, xi_load 3 0 358, 0, 0)) (x_T 358 (x_L 358 (0, xi_push (0, 1, 1) 359, 0, 0)) (x_L 359 (0, xi_bin xF_add 360, 0, 0)))))) (x_T 364 (x_T 361 (x_T 360 (x_L 360 (0, xi_sld 361, 0, 0)) (x_L 361 (0, xi_load 0 2 362, 0, 0))) (x_T 362 (x_L 362 (0, xi_load 3 0 363, 0, 0)) (x_T 363 (x_L 363 (0, xi_push (0, 2, 2) 364, 0, 0)) (x_L 364 (0, xi_bin xF_add 365, 0, 0))))) (x_T 367 (x_T 365 (x_L 365 (0, xi_sld 366, 0, 0)) (x_T 366 (x_L 366 (0, xi_load 0 2 367, 0, 0)) (x_L 367 (0, xi_load 3 0 368, 0, 0)))) (x_T 368 (x_L 368 (0, xi_push (0, 3, 3) 369, 0, 0)) (x_T 369 (x_L 369 (0, xi_bin xF_add 370, 0, 0)) (x_L 370 (0, xi_sld 371, 0, 0)))))))
set_option maxRecDepth 20000 in
set_option maxHeartbeats 4000000 in
theorem tb_0_91_ok (K : xKx) (hK : x_KP K) (hS : ∀ R s A H V sc, K R s A H V sc → x_Scr R s A H V sc) : ∀ pc, x_EOq cls K xI m_0 pc (tb_0_91 pc) :=
  (x_Tok2
  (x_Tok2
  (x_Tok2
  (x_Tok2
  (x_Lok (x_st (I := xI) (xr_icmpeq (off := 1805) (tg := 2142) (x_dk dl_0_0_ok 91 rfl) (by decide))))
  (x_Lok (x_st (I := xI) (xr_aload_n (i := 1) (x_dk dl_0_0_ok 92 rfl)))))
  (x_Tok2
  (x_Lok (x_ca (I := xI) (q' := m_43) rfl (xr_callV (q' := m_43) (ix := 23) (n := 0) (in_t4 (List.mem_of_getElem? (i := 172) rfl) rfl) good_w (in_t1 (List.mem_of_getElem? (i := 1) rfl) rfl) (in_t4 (List.mem_of_getElem? (i := 169) rfl) rfl) (in_t4 (List.mem_of_getElem? (i := 170) rfl) rfl) (in_t4 (List.mem_of_getElem? (i := 171) rfl) rfl) (by decide +kernel) (by decide +kernel) (by decide +kernel) (x_dk dl_0_0_ok 93 rfl))))
  (x_Tok2
  (x_Lok (x_st (I := xI) (xr_aload_n (i := 2) (x_dk dl_0_0_ok 94 rfl))))
  (x_Lok (x_ca (I := xI) (q' := m_114) rfl (xr_callV (q' := m_114) (ix := 27) (n := 0) (in_t11 (List.mem_of_getElem? (i := 11) rfl) rfl) good_w (in_t1 (List.mem_of_getElem? (i := 14) rfl) rfl) (in_t11 (List.mem_of_getElem? (i := 8) rfl) rfl) (in_t11 (List.mem_of_getElem? (i := 9) rfl) rfl) (in_t11 (List.mem_of_getElem? (i := 10) rfl) rfl) (by decide +kernel) (by decide +kernel) (by decide +kernel) (x_dk dl_0_0_ok 95 rfl)))))))
  (x_Tok2
  (x_Tok2
  (x_Lok (x_st (I := xI) (xr_icmpeq (off := 1792) (tg := 2142) (x_dk dl_0_0_ok 96 rfl) (by decide))))
  (x_Tok2
  (x_Lok (x_st (I := xI) (xr_aload_n (i := 1) (x_dk dl_0_0_ok 97 rfl))))
  (x_Lok (x_st (I := xI) (xr_aload_n (i := 0) (x_dk dl_0_0_ok 98 rfl))))))
  (x_Tok2
  (x_Lok (x_st (I := xI) (xr_iload_n (i := 3) (x_dk dl_0_0_ok 99 rfl))))
  (x_Tok2
  (x_Lok (x_st (I := xI) (xr_iconst (n := 1) (z := 1) (v := 1) (x_dk dl_0_1_ok 0 rfl) (by decide) (by decide))))
  (x_Lok (x_st (I := xI) (xr_iadd (x_dk dl_0_1_ok 1 rfl))))))))
  (x_Tok2
  (x_Tok2
  (x_Tok2
  (x_Lok (x_st (I := xI) (xr_sld hS (x_dk dl_0_1_ok 2 rfl))))
  (x_Lok (x_st (I := xI) (xr_aload_n (i := 0) (x_dk dl_0_1_ok 3 rfl)))))
  (x_Tok2
  (x_Lok (x_st (I := xI) (xr_iload_n (i := 3) (x_dk dl_0_1_ok 4 rfl))))
  (x_Tok2
  (x_Lok (x_st (I := xI) (xr_iconst (n := 2) (z := 2) (v := 2) (x_dk dl_0_1_ok 5 rfl) (by decide) (by decide))))
  (x_Lok (x_st (I := xI) (xr_iadd (x_dk dl_0_1_ok 6 rfl)))))))
  (x_Tok2
  (x_Tok2
  (x_Lok (x_st (I := xI) (xr_sld hS (x_dk dl_0_1_ok 7 rfl))))
  (x_Tok2
  (x_Lok (x_st (I := xI) (xr_aload_n (i := 0) (x_dk dl_0_1_ok 8 rfl))))
  (x_Lok (x_st (I := xI) (xr_iload_n (i := 3) (x_dk dl_0_1_ok 9 rfl))))))
  (x_Tok2
  (x_Lok (x_st (I := xI) (xr_iconst (n := 3) (z := 3) (v := 3) (x_dk dl_0_1_ok 10 rfl) (by decide) (by decide))))
  (x_Tok2
  (x_Lok (x_st (I := xI) (xr_iadd (x_dk dl_0_1_ok 11 rfl))))
  (x_Lok (x_st (I := xI) (xr_sld hS (x_dk dl_0_1_ok 12 rfl)))))))))
def tb_0_113 : Nat → xE := (x_T 383 (x_T 375 (x_T 372 (x_T 371 (x_L 371 (0, xi_load 0 2 372, 0, 0)) (x_L 372 (0, xi_load 3 0 373, 0, 0))) (x_T 373 (x_L 373 (0, xi_push (0, 4, 4) 374, 0, 0)) (x_T 374 (x_L 374 (0, xi_bin xF_add 375, 0, 0)) (x_L 375 (0, xi_sld 376, 0, 0))))) (x_T 380 (x_T 376 (x_L 376 (2, x_nof, 44, 5)) (x_T 379 (x_L 379 (0, xi_load 2 2 380, 0, 0)) (x_L 380 (0, xi_load 0 2 381, 0, 0)))) (x_T 381 (x_L 381 (0, xi_load 3 0 382, 0, 0)) (x_T 382 (x_L 382 (0, xi_push (0, 1, 1) 383, 0, 0)) (x_L 383 (0, xi_bin xF_add 384, 0, 0)))))) (x_T 389 (x_T 386 (x_T 384 (x_L 384 (0, xi_sld 385, 0, 0)) (x_T 385 (x_L 385 (0, xi_load 0 2 386, 0, 0)) (x_L 386 (0, xi_load 3 0 387, 0, 0)))) (x_T 387 (x_L 387 (0, xi_push (0, 2, 2) 388, 0, 0)) (x_T 388 (x_L 388 (0, xi_bin xF_add 389, 0, 0)) (x_L 389 (0, xi_sld 390, 0, 0))))) (x_T 392 (x_T 390 (x_L 390 (0, xi_load 0 2 391, 0, 0)) (x_T 391 (x_L 391 (0, xi_load 3 0 392, 0, 0)) (x_L 392 (0, xi_push (0, 3, 3) 393, 0, 0)))) (x_T 393 (x_L 393 (0, xi_bin xF_add 394, 0, 0)) (x_T 394 (x_L 394 (0, xi_sld 395, 0, 0)) (x_L 395 (0, xi_load 0 2 396, 0, 0)))))))
set_option maxRecDepth 20000 in
set_option maxHeartbeats 4000000 in
theorem tb_0_113_ok (K : xKx) (hK : x_KP K) (hS : ∀ R s A H V sc, K R s A H V sc → x_Scr R s A H V sc) : ∀ pc, x_EOq cls K xI m_0 pc (tb_0_113 pc) :=
  (x_Tok2
  (x_Tok2
  (x_Tok2
  (x_Tok2
  (x_Lok (x_st (I := xI) (xr_aload_n (i := 0) (x_dk dl_0_1_ok 13 rfl))))
  (x_Lok (x_st (I := xI) (xr_iload_n (i := 3) (x_dk dl_0_1_ok 14 rfl)))))
  (x_Tok2
  (x_Lok (x_st (I := xI) (xr_iconst (n := 4) (z := 4) (v := 4) (x_dk dl_0_1_ok 15 rfl) (by decide) (by decide))))
  (x_Tok2
  (x_Lok (x_st (I := xI) (xr_iadd (x_dk dl_0_1_ok 16 rfl))))
  (x_Lok (x_st (I := xI) (xr_sld hS (x_dk dl_0_1_ok 17 rfl)))))))
  (x_Tok2
  (x_Tok2
  (x_Lok (x_ca (I := xI) (q' := m_44) rfl (xr_callV (q' := m_44) (ix := 28) (n := 4) (in_t4 (List.mem_of_getElem? (i := 176) rfl) rfl) good_w (in_t1 (List.mem_of_getElem? (i := 1) rfl) rfl) (in_t4 (List.mem_of_getElem? (i := 173) rfl) rfl) (in_t4 (List.mem_of_getElem? (i := 174) rfl) rfl) (in_t4 (List.mem_of_getElem? (i := 175) rfl) rfl) (by decide +kernel) (by decide +kernel) (by decide +kernel) (x_dk dl_0_1_ok 18 rfl))))
  (x_Tok2
  (x_Lok (x_st (I := xI) (xr_aload_n (i := 2) (x_dk dl_0_1_ok 19 rfl))))
  (x_Lok (x_st (I := xI) (xr_aload_n (i := 0) (x_dk dl_0_1_ok 20 rfl))))))
  (x_Tok2
  (x_Lok (x_st (I := xI) (xr_iload_n (i := 3) (x_dk dl_0_1_ok 21 rfl))))
  (x_Tok2
  (x_Lok (x_st (I := xI) (xr_iconst (n := 1) (z := 1) (v := 1) (x_dk dl_0_1_ok 22 rfl) (by decide) (by decide))))
  (x_Lok (x_st (I := xI) (xr_iadd (x_dk dl_0_1_ok 23 rfl))))))))
  (x_Tok2
  (x_Tok2
  (x_Tok2
  (x_Lok (x_st (I := xI) (xr_sld hS (x_dk dl_0_1_ok 24 rfl))))
  (x_Tok2
  (x_Lok (x_st (I := xI) (xr_aload_n (i := 0) (x_dk dl_0_1_ok 25 rfl))))
  (x_Lok (x_st (I := xI) (xr_iload_n (i := 3) (x_dk dl_0_1_ok 26 rfl))))))
  (x_Tok2
  (x_Lok (x_st (I := xI) (xr_iconst (n := 2) (z := 2) (v := 2) (x_dk dl_0_1_ok 27 rfl) (by decide) (by decide))))
  (x_Tok2
  (x_Lok (x_st (I := xI) (xr_iadd (x_dk dl_0_1_ok 28 rfl))))
  (x_Lok (x_st (I := xI) (xr_sld hS (x_dk dl_0_1_ok 29 rfl)))))))
  (x_Tok2
  (x_Tok2
  (x_Lok (x_st (I := xI) (xr_aload_n (i := 0) (x_dk dl_0_1_ok 30 rfl))))
  (x_Tok2
  (x_Lok (x_st (I := xI) (xr_iload_n (i := 3) (x_dk dl_0_1_ok 31 rfl))))
  (x_Lok (x_st (I := xI) (xr_iconst (n := 3) (z := 3) (v := 3) (x_dk dl_0_1_ok 32 rfl) (by decide) (by decide))))))
  (x_Tok2
  (x_Lok (x_st (I := xI) (xr_iadd (x_dk dl_0_1_ok 33 rfl))))
  (x_Tok2
  (x_Lok (x_st (I := xI) (xr_sld hS (x_dk dl_0_1_ok 34 rfl))))
  (x_Lok (x_st (I := xI) (xr_aload_n (i := 0) (x_dk dl_0_1_ok 35 rfl)))))))))
def tb_0_136 : Nat → xE := (x_T 412 (x_T 400 (x_T 397 (x_T 396 (x_L 396 (0, xi_load 3 0 397, 0, 0)) (x_L 397 (0, xi_push (0, 4, 4) 398, 0, 0))) (x_T 398 (x_L 398 (0, xi_bin xF_add 399, 0, 0)) (x_T 399 (x_L 399 (0, xi_sld 400, 0, 0)) (x_L 400 (2, x_nof, 115, 5))))) (x_T 409 (x_T 403 (x_L 403 (0, xi_if2 0 2142 406, 0, 0)) (x_T 408 (x_L 408 (0, xi_load 1 2 409, 0, 0)) (x_L 409 (0, xi_load 0 2 410, 0, 0)))) (x_T 410 (x_L 410 (0, xi_load 3 0 411, 0, 0)) (x_T 411 (x_L 411 (0, xi_push (0, 1, 1) 412, 0, 0)) (x_L 412 (0, xi_bin xF_add 413, 0, 0)))))) (x_T 418 (x_T 415 (x_T 413 (x_L 413 (0, xi_sld 414, 0, 0)) (x_T 414 (x_L 414 (0, xi_load 0 2 415, 0, 0)) (x_L 415 (0, xi_load 3 0 416, 0, 0)))) (x_T 416 (x_L 416 (0, xi_push (0, 2, 2) 417, 0, 0)) (x_T 417 (x_L 417 (0, xi_bin xF_add 418, 0, 0)) (x_L 418 (0, xi_sld 419, 0, 0))))) (x_T 421 (x_T 419 (x_L 419 (0, xi_load 0 2 420, 0, 0)) (x_T 420 (x_L 420 (0, xi_load 3 0 421, 0, 0)) (x_L 421 (0, xi_push (0, 3, 3) 422, 0, 0)))) (x_T 422 (x_L 422 (0, xi_bin xF_add 423, 0, 0)) (x_T 423 (x_L 423 (0, xi_sld 424, 0, 0)) (x_L 424 (0, xi_load 0 2 425, 0, 0)))))))
set_option maxRecDepth 20000 in
set_option maxHeartbeats 4000000 in
theorem tb_0_136_ok (K : xKx) (hK : x_KP K) (hS : ∀ R s A H V sc, K R s A H V sc → x_Scr R s A H V sc) : ∀ pc, x_EOq cls K xI m_0 pc (tb_0_136 pc) :=
  (x_Tok2
  (x_Tok2
  (x_Tok2
  (x_Tok2
  (x_Lok (x_st (I := xI) (xr_iload_n (i := 3) (x_dk dl_0_1_ok 36 rfl))))
  (x_Lok (x_st (I := xI) (xr_iconst (n := 4) (z := 4) (v := 4) (x_dk dl_0_1_ok 37 rfl) (by decide) (by decide)))))
  (x_Tok2
  (x_Lok (x_st (I := xI) (xr_iadd (x_dk dl_0_1_ok 38 rfl))))
  (x_Tok2
  (x_Lok (x_st (I := xI) (xr_sld hS (x_dk dl_0_1_ok 39 rfl))))
  (x_Lok (x_ca (I := xI) (q' := m_115) rfl (xr_callV (q' := m_115) (ix := 32) (n := 4) (in_t11 (List.mem_of_getElem? (i := 15) rfl) rfl) good_w (in_t1 (List.mem_of_getElem? (i := 14) rfl) rfl) (in_t11 (List.mem_of_getElem? (i := 12) rfl) rfl) (in_t11 (List.mem_of_getElem? (i := 13) rfl) rfl) (in_t11 (List.mem_of_getElem? (i := 14) rfl) rfl) (by decide +kernel) (by decide +kernel) (by decide +kernel) (x_dk dl_0_1_ok 40 rfl)))))))
  (x_Tok2
  (x_Tok2
  (x_Lok (x_st (I := xI) (xr_icmpeq (off := 1739) (tg := 2142) (x_dk dl_0_1_ok 41 rfl) (by decide))))
  (x_Tok2
  (x_Lok (x_st (I := xI) (xr_aload_n (i := 1) (x_dk dl_0_1_ok 42 rfl))))
  (x_Lok (x_st (I := xI) (xr_aload_n (i := 0) (x_dk dl_0_1_ok 43 rfl))))))
  (x_Tok2
  (x_Lok (x_st (I := xI) (xr_iload_n (i := 3) (x_dk dl_0_1_ok 44 rfl))))
  (x_Tok2
  (x_Lok (x_st (I := xI) (xr_iconst (n := 1) (z := 1) (v := 1) (x_dk dl_0_1_ok 45 rfl) (by decide) (by decide))))
  (x_Lok (x_st (I := xI) (xr_iadd (x_dk dl_0_1_ok 46 rfl))))))))
  (x_Tok2
  (x_Tok2
  (x_Tok2
  (x_Lok (x_st (I := xI) (xr_sld hS (x_dk dl_0_1_ok 47 rfl))))
  (x_Tok2
  (x_Lok (x_st (I := xI) (xr_aload_n (i := 0) (x_dk dl_0_1_ok 48 rfl))))
  (x_Lok (x_st (I := xI) (xr_iload_n (i := 3) (x_dk dl_0_1_ok 49 rfl))))))
  (x_Tok2
  (x_Lok (x_st (I := xI) (xr_iconst (n := 2) (z := 2) (v := 2) (x_dk dl_0_1_ok 50 rfl) (by decide) (by decide))))
  (x_Tok2
  (x_Lok (x_st (I := xI) (xr_iadd (x_dk dl_0_1_ok 51 rfl))))
  (x_Lok (x_st (I := xI) (xr_sld hS (x_dk dl_0_1_ok 52 rfl)))))))
  (x_Tok2
  (x_Tok2
  (x_Lok (x_st (I := xI) (xr_aload_n (i := 0) (x_dk dl_0_1_ok 53 rfl))))
  (x_Tok2
  (x_Lok (x_st (I := xI) (xr_iload_n (i := 3) (x_dk dl_0_1_ok 54 rfl))))
  (x_Lok (x_st (I := xI) (xr_iconst (n := 3) (z := 3) (v := 3) (x_dk dl_0_1_ok 55 rfl) (by decide) (by decide))))))
  (x_Tok2
  (x_Lok (x_st (I := xI) (xr_iadd (x_dk dl_0_1_ok 56 rfl))))
  (x_Tok2
  (x_Lok (x_st (I := xI) (xr_sld hS (x_dk dl_0_1_ok 57 rfl))))
  (x_Lok (x_st (I := xI) (xr_aload_n (i := 0) (x_dk dl_0_1_ok 58 rfl)))))))))
def tb_0_159 : Nat → xE := (x_T 437 (x_T 429 (x_T 426 (x_T 425 (x_L 425 (0, xi_load 3 0 426, 0, 0)) (x_L 426 (0, xi_push (0, 4, 4) 427, 0, 0))) (x_T 427 (x_L 427 (0, xi_bin xF_add 428, 0, 0)) (x_T 428 (x_L 428 (0, xi_sld 429, 0, 0)) (x_L 429 (0, xi_load 0 2 430, 0, 0))))) (x_T 432 (x_T 430 (x_L 430 (0, xi_load 3 0 431, 0, 0)) (x_T 431 (x_L 431 (0, xi_push (0, 5, 5) 432, 0, 0)) (x_L 432 (0, xi_bin xF_add 433, 0, 0)))) (x_T 433 (x_L 433 (0, xi_sld 434, 0, 0)) (x_T 434 (x_L 434 (2, x_nof, 45, 6)) (x_L 437 (0, xi_load 2 2 438, 0, 0)))))) (x_T 443 (x_T 440 (x_T 438 (x_L 438 (0, xi_load 0 2 439, 0, 0)) (x_T 439 (x_L 439 (0, xi_load 3 0 440, 0, 0)) (x_L 440 (0, xi_push (0, 1, 1) 441, 0, 0)))) (x_T 441 (x_L 441 (0, xi_bin xF_add 442, 0, 0)) (x_T 442 (x_L 442 (0, xi_sld 443, 0, 0)) (x_L 443 (0, xi_load 0 2 444, 0, 0))))) (x_T 446 (x_T 444 (x_L 444 (0, xi_load 3 0 445, 0, 0)) (x_T 445 (x_L 445 (0, xi_push (0, 2, 2) 446, 0, 0)) (x_L 446 (0, xi_bin xF_add 447, 0, 0)))) (x_T 447 (x_L 447 (0, xi_sld 448, 0, 0)) (x_T 448 (x_L 448 (0, xi_load 0 2 449, 0, 0)) (x_L 449 (0, xi_load 3 0 450, 0, 0)))))))
set_option maxRecDepth 20000 in
set_option maxHeartbeats 4000000 in
theorem tb_0_159_ok (K : xKx) (hK : x_KP K) (hS : ∀ R s A H V sc, K R s A H V sc → x_Scr R s A H V sc) : ∀ pc, x_EOq cls K xI m_0 pc (tb_0_159 pc) :=
  (x_Tok2
  (x_Tok2
  (x_Tok2
  (x_Tok2
  (x_Lok (x_st (I := xI) (xr_iload_n (i := 3) (x_dk dl_0_1_ok 59 rfl))))
  (x_Lok (x_st (I := xI) (xr_iconst (n := 4) (z := 4) (v := 4) (x_dk dl_0_1_ok 60 rfl) (by decide) (by decide)))))
  (x_Tok2
  (x_Lok (x_st (I := xI) (xr_iadd (x_dk dl_0_1_ok 61 rfl))))
  (x_Tok2
  (x_Lok (x_st (I := xI) (xr_sld hS (x_dk dl_0_1_ok 62 rfl))))
  (x_Lok (x_st (I := xI) (xr_aload_n (i := 0) (x_dk dl_0_1_ok 63 rfl)))))))
  (x_Tok2
  (x_Tok2
  (x_Lok (x_st (I := xI) (xr_iload_n (i := 3) (x_dk dl_0_1_ok 64 rfl))))
  (x_Tok2
  (x_Lok (x_st (I := xI) (xr_iconst (n := 5) (z := 5) (v := 5) (x_dk dl_0_1_ok 65 rfl) (by decide) (by decide))))
  (x_Lok (x_st (I := xI) (xr_iadd (x_dk dl_0_1_ok 66 rfl))))))
  (x_Tok2
  (x_Lok (x_st (I := xI) (xr_sld hS (x_dk dl_0_1_ok 67 rfl))))
  (x_Tok2
  (x_Lok (x_ca (I := xI) (q' := m_45) rfl (xr_callV (q' := m_45) (ix := 33) (n := 5) (in_t4 (List.mem_of_getElem? (i := 180) rfl) rfl) good_w (in_t1 (List.mem_of_getElem? (i := 1) rfl) rfl) (in_t4 (List.mem_of_getElem? (i := 177) rfl) rfl) (in_t4 (List.mem_of_getElem? (i := 178) rfl) rfl) (in_t4 (List.mem_of_getElem? (i := 179) rfl) rfl) (by decide +kernel) (by decide +kernel) (by decide +kernel) (x_dk dl_0_1_ok 68 rfl))))
  (x_Lok (x_st (I := xI) (xr_aload_n (i := 2) (x_dk dl_0_1_ok 69 rfl))))))))
  (x_Tok2
  (x_Tok2
  (x_Tok2
  (x_Lok (x_st (I := xI) (xr_aload_n (i := 0) (x_dk dl_0_1_ok 70 rfl))))
  (x_Tok2
  (x_Lok (x_st (I := xI) (xr_iload_n (i := 3) (x_dk dl_0_1_ok 71 rfl))))
  (x_Lok (x_st (I := xI) (xr_iconst (n := 1) (z := 1) (v := 1) (x_dk dl_0_1_ok 72 rfl) (by decide) (by decide))))))
  (x_Tok2
  (x_Lok (x_st (I := xI) (xr_iadd (x_dk dl_0_1_ok 73 rfl))))
  (x_Tok2
  (x_Lok (x_st (I := xI) (xr_sld hS (x_dk dl_0_1_ok 74 rfl))))
  (x_Lok (x_st (I := xI) (xr_aload_n (i := 0) (x_dk dl_0_1_ok 75 rfl)))))))
  (x_Tok2
  (x_Tok2
  (x_Lok (x_st (I := xI) (xr_iload_n (i := 3) (x_dk dl_0_1_ok 76 rfl))))
  (x_Tok2
  (x_Lok (x_st (I := xI) (xr_iconst (n := 2) (z := 2) (v := 2) (x_dk dl_0_1_ok 77 rfl) (by decide) (by decide))))
  (x_Lok (x_st (I := xI) (xr_iadd (x_dk dl_0_1_ok 78 rfl))))))
  (x_Tok2
  (x_Lok (x_st (I := xI) (xr_sld hS (x_dk dl_0_1_ok 79 rfl))))
  (x_Tok2
  (x_Lok (x_st (I := xI) (xr_aload_n (i := 0) (x_dk dl_0_1_ok 80 rfl))))
  (x_Lok (x_st (I := xI) (xr_iload_n (i := 3) (x_dk dl_0_1_ok 81 rfl)))))))))
def tb_0_182 : Nat → xE := (x_T 460 (x_T 454 (x_T 451 (x_T 450 (x_L 450 (0, xi_push (0, 3, 3) 451, 0, 0)) (x_L 451 (0, xi_bin xF_add 452, 0, 0))) (x_T 452 (x_L 452 (0, xi_sld 453, 0, 0)) (x_T 453 (x_L 453 (0, xi_load 0 2 454, 0, 0)) (x_L 454 (0, xi_load 3 0 455, 0, 0))))) (x_T 457 (x_T 455 (x_L 455 (0, xi_push (0, 4, 4) 456, 0, 0)) (x_T 456 (x_L 456 (0, xi_bin xF_add 457, 0, 0)) (x_L 457 (0, xi_sld 458, 0, 0)))) (x_T 458 (x_L 458 (0, xi_load 0 2 459, 0, 0)) (x_T 459 (x_L 459 (0, xi_load 3 0 460, 0, 0)) (x_L 460 (0, xi_push (0, 5, 5) 461, 0, 0)))))) (x_T 471 (x_T 462 (x_T 461 (x_L 461 (0, xi_bin xF_add 462, 0, 0)) (x_L 462 (0, xi_sld 463, 0, 0))) (x_T 463 (x_L 463 (2, x_nof, 116, 6)) (x_T 466 (x_L 466 (0, xi_if2 0 2142 469, 0, 0)) (x_L 471 (0, xi_load 1 2 472, 0, 0))))) (x_T 474 (x_T 472 (x_L 472 (0, xi_load 0 2 473, 0, 0)) (x_T 473 (x_L 473 (0, xi_load 3 0 474, 0, 0)) (x_L 474 (0, xi_push (0, 1, 1) 475, 0, 0)))) (x_T 475 (x_L 475 (0, xi_bin xF_add 476, 0, 0)) (x_T 476 (x_L 476 (0, xi_sld 477, 0, 0)) (x_L 477 (0, xi_load 0 2 478, 0, 0)))))))
set_option maxRecDepth 20000 in
set_option maxHeartbeats 4000000 in
theorem tb_0_182_ok (K : xKx) (hK : x_KP K) (hS : ∀ R s A H V sc, K R s A H V sc → x_Scr R s A H V sc) : ∀ pc, x_EOq cls K xI m_0 pc (tb_0_182 pc) :=
  (x_Tok2
  (x_Tok2
  (x_Tok2
  (x_Tok2
  (x_Lok (x_st (I := xI) (xr_iconst (n := 3) (z := 3) (v := 3) (x_dk dl_0_1_ok 82 rfl) (by decide) (by decide))))
  (x_Lok (x_st (I := xI) (xr_iadd (x_dk dl_0_1_ok 83 rfl)))))
  (x_Tok2
  (x_Lok (x_st (I := xI) (xr_sld hS (x_dk dl_0_1_ok 84 rfl))))
  (x_Tok2
  (x_Lok (x_st (I := xI) (xr_aload_n (i := 0) (x_dk dl_0_1_ok 85 rfl))))
  (x_Lok (x_st (I := xI) (xr_iload_n (i := 3) (x_dk dl_0_1_ok 86 rfl)))))))
  (x_Tok2
  (x_Tok2
  (x_Lok (x_st (I := xI) (xr_iconst (n := 4) (z := 4) (v := 4) (x_dk dl_0_1_ok 87 rfl) (by decide) (by decide))))
  (x_Tok2
  (x_Lok (x_st (I := xI) (xr_iadd (x_dk dl_0_1_ok 88 rfl))))
  (x_Lok (x_st (I := xI) (xr_sld hS (x_dk dl_0_1_ok 89 rfl))))))
  (x_Tok2
  (x_Lok (x_st (I := xI) (xr_aload_n (i := 0) (x_dk dl_0_1_ok 90 rfl))))
  (x_Tok2
  (x_Lok (x_st (I := xI) (xr_iload_n (i := 3) (x_dk dl_0_1_ok 91 rfl))))
  (x_Lok (x_st (I := xI) (xr_iconst (n := 5) (z := 5) (v := 5) (x_dk dl_0_1_ok 92 rfl) (by decide) (by decide))))))))
  (x_Tok2
  (x_Tok2
  (x_Tok2
  (x_Lok (x_st (I := xI) (xr_iadd (x_dk dl_0_1_ok 93 rfl))))
  (x_Lok (x_st (I := xI) (xr_sld hS (x_dk dl_0_1_ok 94 rfl)))))
  (x_Tok2
  (x_Lok (x_ca (I := xI) (q' := m_116) rfl (xr_callV (q' := m_116) (ix := 36) (n := 5) (in_t11 (List.mem_of_getElem? (i := 23) rfl) rfl) good_w (in_t1 (List.mem_of_getElem? (i := 14) rfl) rfl) (in_t11 (List.mem_of_getElem? (i := 20) rfl) rfl) (in_t11 (List.mem_of_getElem? (i := 21) rfl) rfl) (in_t11 (List.mem_of_getElem? (i := 22) rfl) rfl) (by decide +kernel) (by decide +kernel) (by decide +kernel) (x_dk dl_0_1_ok 95 rfl))))
  (x_Tok2
  (x_Lok (x_st (I := xI) (xr_icmpeq (off := 1676) (tg := 2142) (x_dk dl_0_1_ok 96 rfl) (by decide))))
  (x_Lok (x_st (I := xI) (xr_aload_n (i := 1) (x_dk dl_0_1_ok 97 rfl)))))))
  (x_Tok2
  (x_Tok2
  (x_Lok (x_st (I := xI) (xr_aload_n (i := 0) (x_dk dl_0_1_ok 98 rfl))))
  (x_Tok2
  (x_Lok (x_st (I := xI) (xr_iload_n (i := 3) (x_dk dl_0_1_ok 99 rfl))))
  (x_Lok (x_st (I := xI) (xr_iconst (n := 1) (z := 1) (v := 1) (x_dk dl_0_2_ok 0 rfl) (by decide) (by decide))))))
  (x_Tok2
  (x_Lok (x_st (I := xI) (xr_iadd (x_dk dl_0_2_ok 1 rfl))))
  (x_Tok2
  (x_Lok (x_st (I := xI) (xr_sld hS (x_dk dl_0_2_ok 2 rfl))))
  (x_Lok (x_st (I := xI) (xr_aload_n (i := 0) (x_dk dl_0_2_ok 3 rfl)))))))))
def tb_0_204 : Nat → xE := (x_T 488 (x_T 482 (x_T 479 (x_T 478 (x_L 478 (0, xi_load 3 0 479, 0, 0)) (x_L 479 (0, xi_push (0, 2, 2) 480, 0, 0))) (x_T 480 (x_L 480 (0, xi_bin xF_add 481, 0, 0)) (x_T 481 (x_L 481 (0, xi_sld 482, 0, 0)) (x_L 482 (0, xi_load 0 2 483, 0, 0))))) (x_T 485 (x_T 483 (x_L 483 (0, xi_load 3 0 484, 0, 0)) (x_T 484 (x_L 484 (0, xi_push (0, 3, 3) 485, 0, 0)) (x_L 485 (0, xi_bin xF_add 486, 0, 0)))) (x_T 486 (x_L 486 (0, xi_sld 487, 0, 0)) (x_T 487 (x_L 487 (0, xi_load 0 2 488, 0, 0)) (x_L 488 (0, xi_load 3 0 489, 0, 0)))))) (x_T 496 (x_T 491 (x_T 489 (x_L 489 (0, xi_push (0, 4, 4) 490, 0, 0)) (x_T 490 (x_L 490 (0, xi_bin xF_add 491, 0, 0)) (x_L 491 (0, xi_sld 492, 0, 0)))) (x_T 492 (x_L 492 (2, x_nof, 46, 5)) (x_T 495 (x_L 495 (0, xi_load 2 2 496, 0, 0)) (x_L 496 (0, xi_load 0 2 497, 0, 0))))) (x_T 499 (x_T 497 (x_L 497 (0, xi_load 3 0 498, 0, 0)) (x_T 498 (x_L 498 (0, xi_push (0, 1, 1) 499, 0, 0)) (x_L 499 (0, xi_bin xF_add 500, 0, 0)))) (x_T 500 (x_L 500 (0, xi_sld 501, 0, 0)) (x_T 501 (x_L 501 (0, xi_load 0 2 502, 0, 0)) (x_L 502 (0, xi_load 3 0 503, 0, 0)))))))
set_option maxRecDepth 20000 in
set_option maxHeartbeats 4000000 in
theorem tb_0_204_ok (K : xKx) (hK : x_KP K) (hS : ∀ R s A H V sc, K R s A H V sc → x_Scr R s A H V sc) : ∀ pc, x_EOq cls K xI m_0 pc (tb_0_204 pc) :=
  (x_Tok2
  (x_Tok2
  (x_Tok2
  (x_Tok2
  (x_Lok (x_st (I := xI) (xr_iload_n (i := 3) (x_dk dl_0_2_ok 4 rfl))))
  (x_Lok (x_st (I := xI) (xr_iconst (n := 2) (z := 2) (v := 2) (x_dk dl_0_2_ok 5 rfl) (by decide) (by decide)))))
  (x_Tok2
  (x_Lok (x_st (I := xI) (xr_iadd (x_dk dl_0_2_ok 6 rfl))))
  (x_Tok2
  (x_Lok (x_st (I := xI) (xr_sld hS (x_dk dl_0_2_ok 7 rfl))))
  (x_Lok (x_st (I := xI) (xr_aload_n (i := 0) (x_dk dl_0_2_ok 8 rfl)))))))
  (x_Tok2
  (x_Tok2
  (x_Lok (x_st (I := xI) (xr_iload_n (i := 3) (x_dk dl_0_2_ok 9 rfl))))
  (x_Tok2
  (x_Lok (x_st (I := xI) (xr_iconst (n := 3) (z := 3) (v := 3) (x_dk dl_0_2_ok 10 rfl) (by decide) (by decide))))
  (x_Lok (x_st (I := xI) (xr_iadd (x_dk dl_0_2_ok 11 rfl))))))
  (x_Tok2
  (x_Lok (x_st (I := xI) (xr_sld hS (x_dk dl_0_2_ok 12 rfl))))
  (x_Tok2
  (x_Lok (x_st (I := xI) (xr_aload_n (i := 0) (x_dk dl_0_2_ok 13 rfl))))
  (x_Lok (x_st (I := xI) (xr_iload_n (i := 3) (x_dk dl_0_2_ok 14 rfl))))))))
  (x_Tok2
  (x_Tok2
  (x_Tok2
  (x_Lok (x_st (I := xI) (xr_iconst (n := 4) (z := 4) (v := 4) (x_dk dl_0_2_ok 15 rfl) (by decide) (by decide))))
  (x_Tok2
  (x_Lok (x_st (I := xI) (xr_iadd (x_dk dl_0_2_ok 16 rfl))))
  (x_Lok (x_st (I := xI) (xr_sld hS (x_dk dl_0_2_ok 17 rfl))))))
  (x_Tok2
  (x_Lok (x_ca (I := xI) (q' := m_46) rfl (xr_callV (q' := m_46) (ix := 37) (n := 4) (in_t4 (List.mem_of_getElem? (i := 197) rfl) rfl) good_w (in_t1 (List.mem_of_getElem? (i := 1) rfl) rfl) (in_t4 (List.mem_of_getElem? (i := 194) rfl) rfl) (in_t4 (List.mem_of_getElem? (i := 195) rfl) rfl) (in_t4 (List.mem_of_getElem? (i := 196) rfl) rfl) (by decide +kernel) (by decide +kernel) (by decide +kernel) (x_dk dl_0_2_ok 18 rfl))))
  (x_Tok2
  (x_Lok (x_st (I := xI) (xr_aload_n (i := 2) (x_dk dl_0_2_ok 19 rfl))))
  (x_Lok (x_st (I := xI) (xr_aload_n (i := 0) (x_dk dl_0_2_ok 20 rfl)))))))
  (x_Tok2
  (x_Tok2
  (x_Lok (x_st (I := xI) (xr_iload_n (i := 3) (x_dk dl_0_2_ok 21 rfl))))
  (x_Tok2
  (x_Lok (x_st (I := xI) (xr_iconst (n := 1) (z := 1) (v := 1) (x_dk dl_0_2_ok 22 rfl) (by decide) (by decide))))
  (x_Lok (x_st (I := xI) (xr_iadd (x_dk dl_0_2_ok 23 rfl))))))
  (x_Tok2
  (x_Lok (x_st (I := xI) (xr_sld hS (x_dk dl_0_2_ok 24 rfl))))
  (x_Tok2
  (x_Lok (x_st (I := xI) (xr_aload_n (i := 0) (x_dk dl_0_2_ok 25 rfl))))
  (x_Lok (x_st (I := xI) (xr_iload_n (i := 3) (x_dk dl_0_2_ok 26 rfl)))))))))
def tb_0_227 : Nat → xE := (x_T 513 (x_T 507 (x_T 504 (x_T 503 (x_L 503 (0, xi_push (0, 2, 2) 504, 0, 0)) (x_L 504 (0, xi_bin xF_add 505, 0, 0))) (x_T 505 (x_L 505 (0, xi_sld 506, 0, 0)) (x_T 506 (x_L 506 (0, xi_load 0 2 507, 0, 0)) (x_L 507 (0, xi_load 3 0 508, 0, 0))))) (x_T 510 (x_T 508 (x_L 508 (0, xi_push (0, 3, 3) 509, 0, 0)) (x_T 509 (x_L 509 (0, xi_bin xF_add 510, 0, 0)) (x_L 510 (0, xi_sld 511, 0, 0)))) (x_T 511 (x_L 511 (0, xi_load 0 2 512, 0, 0)) (x_T 512 (x_L 512 (0, xi_load 3 0 513, 0, 0)) (x_L 513 (0, xi_push (0, 4, 4) 514, 0, 0)))))) (x_T 525 (x_T 516 (x_T 514 (x_L 514 (0, xi_bin xF_add 515, 0, 0)) (x_T 515 (x_L 515 (0, xi_sld 516, 0, 0)) (x_L 516 (2, x_nof, 118, 5)))) (x_T 519 (x_L 519 (0, xi_if2 0 2142 522, 0, 0)) (x_T 524 (x_L 524 (0, xi_load 1 2 525, 0, 0)) (x_L 525 (0, xi_load 0 2 526, 0, 0))))) (x_T 528 (x_T 526 (x_L 526 (0, xi_load 3 0 527, 0, 0)) (x_T 527 (x_L 527 (0, xi_push (0, 1, 1) 528, 0, 0)) (x_L 528 (0, xi_bin xF_add 529, 0, 0)))) (x_T 529 (x_L 529 (0, xi_sld 530, 0, 0)) (x_T 530 (x_L 530 (0, xi_load 0 2 531, 0, 0)) (x_L 531 (0, xi_load 3 0 532, 0, 0)))))))
set_option maxRecDepth 20000 in
set_option maxHeartbeats 4000000 in
theorem tb_0_227_ok (K : xKx) (hK : x_KP K) (hS : ∀ R s A H V sc, K R s A H V sc → x_Scr R s A H V sc) : ∀ pc, x_EOq cls K xI m_0 pc (tb_0_227 pc) :=
  (x_Tok2
  (x_Tok2
  (x_Tok2
  (x_Tok2
  (x_Lok (x_st (I := xI) (xr_iconst (n := 2) (z := 2) (v := 2) (x_dk dl_0_2_ok 27 rfl) (by decide) (by decide))))
  (x_Lok (x_st (I := xI) (xr_iadd (x_dk dl_0_2_ok 28 rfl)))))
  (x_Tok2
  (x_Lok (x_st (I := xI) (xr_sld hS (x_dk dl_0_2_ok 29 rfl))))
  (x_Tok2
  (x_Lok (x_st (I := xI) (xr_aload_n (i := 0) (x_dk dl_0_2_ok 30 rfl))))
  (x_Lok (x_st (I := xI) (xr_iload_n (i := 3) (x_dk dl_0_2_ok 31 rfl)))))))
  (x_Tok2
  (x_Tok2
  (x_Lok (x_st (I := xI) (xr_iconst (n := 3) (z := 3) (v := 3) (x_dk dl_0_2_ok 32 rfl) (by decide) (by decide))))
  (x_Tok2
  (x_Lok (x_st (I := xI) (xr_iadd (x_dk dl_0_2_ok 33 rfl))))
  (x_Lok (x_st (I := xI) (xr_sld hS (x_dk dl_0_2_ok 34 rfl))))))
  (x_Tok2
  (x_Lok (x_st (I := xI) (xr_aload_n (i := 0) (x_dk dl_0_2_ok 35 rfl))))
  (x_Tok2
  (x_Lok (x_st (I := xI) (xr_iload_n (i := 3) (x_dk dl_0_2_ok 36 rfl))))
  (x_Lok (x_st (I := xI) (xr_iconst (n := 4) (z := 4) (v := 4) (x_dk dl_0_2_ok 37 rfl) (by decide) (by decide))))))))
  (x_Tok2
  (x_Tok2
  (x_Tok2
  (x_Lok (x_st (I := xI) (xr_iadd (x_dk dl_0_2_ok 38 rfl))))
  (x_Tok2
  (x_Lok (x_st (I := xI) (xr_sld hS (x_dk dl_0_2_ok 39 rfl))))
  (x_Lok (x_ca (I := xI) (q' := m_118) rfl (xr_callV (q' := m_118) (ix := 40) (n := 4) (in_t11 (List.mem_of_getElem? (i := 40) rfl) rfl) good_w (in_t1 (List.mem_of_getElem? (i := 14) rfl) rfl) (in_t11 (List.mem_of_getElem? (i := 37) rfl) rfl) (in_t11 (List.mem_of_getElem? (i := 38) rfl) rfl) (in_t11 (List.mem_of_getElem? (i := 39) rfl) rfl) (by decide +kernel) (by decide +kernel) (by decide +kernel) (x_dk dl_0_2_ok 40 rfl))))))
  (x_Tok2
  (x_Lok (x_st (I := xI) (xr_icmpeq (off := 1623) (tg := 2142) (x_dk dl_0_2_ok 41 rfl) (by decide))))
  (x_Tok2
  (x_Lok (x_st (I := xI) (xr_aload_n (i := 1) (x_dk dl_0_2_ok 42 rfl))))
  (x_Lok (x_st (I := xI) (xr_aload_n (i := 0) (x_dk dl_0_2_ok 43 rfl)))))))
  (x_Tok2
  (x_Tok2
  (x_Lok (x_st (I := xI) (xr_iload_n (i := 3) (x_dk dl_0_2_ok 44 rfl))))
  (x_Tok2
  (x_Lok (x_st (I := xI) (xr_iconst (n := 1) (z := 1) (v := 1) (x_dk dl_0_2_ok 45 rfl) (by decide) (by decide))))
  (x_Lok (x_st (I := xI) (xr_iadd (x_dk dl_0_2_ok 46 rfl))))))
  (x_Tok2
  (x_Lok (x_st (I := xI) (xr_sld hS (x_dk dl_0_2_ok 47 rfl))))
  (x_Tok2
  (x_Lok (x_st (I := xI) (xr_aload_n (i := 0) (x_dk dl_0_2_ok 48 rfl))))
  (x_Lok (x_st (I := xI) (xr_iload_n (i := 3) (x_dk dl_0_2_ok 49 rfl)))))))))
def tb_0_250 : Nat → xE := (x_T 544 (x_T 536 (x_T 533 (x_T 532 (x_L 532 (0, xi_push (0, 2, 2) 533, 0, 0)) (x_L 533 (0, xi_bin xF_add 534, 0, 0))) (x_T 534 (x_L 534 (0, xi_sld 535, 0, 0)) (x_T 535 (x_L 535 (0, xi_load 0 2 536, 0, 0)) (x_L 536 (0, xi_load 3 0 537, 0, 0))))) (x_T 539 (x_T 537 (x_L 537 (0, xi_push (0, 3, 3) 538, 0, 0)) (x_T 538 (x_L 538 (0, xi_bin xF_add 539, 0, 0)) (x_L 539 (0, xi_sld 540, 0, 0)))) (x_T 540 (x_L 540 (2, x_nof, 47, 4)) (x_T 543 (x_L 543 (0, xi_load 2 2 544, 0, 0)) (x_L 544 (0, xi_load 0 2 545, 0, 0)))))) (x_T 550 (x_T 547 (x_T 545 (x_L 545 (0, xi_load 3 0 546, 0, 0)) (x_T 546 (x_L 546 (0, xi_push (0, 1, 1) 547, 0, 0)) (x_L 547 (0, xi_bin xF_add 548, 0, 0)))) (x_T 548 (x_L 548 (0, xi_sld 549, 0, 0)) (x_T 549 (x_L 549 (0, xi_load 0 2 550, 0, 0)) (x_L 550 (0, xi_load 3 0 551, 0, 0))))) (x_T 553 (x_T 551 (x_L 551 (0, xi_push (0, 2, 2) 552, 0, 0)) (x_T 552 (x_L 552 (0, xi_bin xF_add 553, 0, 0)) (x_L 553 (0, xi_sld 554, 0, 0)))) (x_T 554 (x_L 554 (0, xi_load 0 2 555, 0, 0)) (x_T 555 (x_L 555 (0, xi_load 3 0 556, 0, 0)) (x_L 556 (0, xi_push (0, 3, 3) 557, 0, 0)))))))
set_option maxRecDepth 20000 in
set_option maxHeartbeats 4000000 in
theorem tb_0_250_ok (K : xKx) (hK : x_KP K) (hS : ∀ R s A H V sc, K R s A H V sc → x_Scr R s A H V sc) : ∀ pc, x_EOq cls K xI m_0 pc (tb_0_250 pc) :=
  (x_Tok2
  (x_Tok2
  (x_Tok2
  (x_Tok2
  (x_Lok (x_st (I := xI) (xr_iconst (n := 2) (z := 2) (v := 2) (x_dk dl_0_2_ok 50 rfl) (by decide) (by decide))))
  (x_Lok (x_st (I := xI) (xr_iadd (x_dk dl_0_2_ok 51 rfl)))))
  (x_Tok2
  (x_Lok (x_st (I := xI) (xr_sld hS (x_dk dl_0_2_ok 52 rfl))))
  (x_Tok2
  (x_Lok (x_st (I := xI) (xr_aload_n (i := 0) (x_dk dl_0_2_ok 53 rfl))))
  (x_Lok (x_st (I := xI) (xr_iload_n (i := 3) (x_dk dl_0_2_ok 54 rfl)))))))
  (x_Tok2
  (x_Tok2
  (x_Lok (x_st (I := xI) (xr_iconst (n := 3) (z := 3) (v := 3) (x_dk dl_0_2_ok 55 rfl) (by decide) (by decide))))
  (x_Tok2
  (x_Lok (x_st (I := xI) (xr_iadd (x_dk dl_0_2_ok 56 rfl))))
  (x_Lok (x_st (I := xI) (xr_sld hS (x_dk dl_0_2_ok 57 rfl))))))
  (x_Tok2
  (x_Lok (x_ca (I := xI) (q' := m_47) rfl (xr_callV (q' := m_47) (ix := 41) (n := 3) (in_t4 (List.mem_of_getElem? (i := 205) rfl) rfl) good_w (in_t1 (List.mem_of_getElem? (i := 1) rfl) rfl) (in_t4 (List.mem_of_getElem? (i := 202) rfl) rfl) (in_t4 (List.mem_of_getElem? (i := 203) rfl) rfl) (in_t4 (List.mem_of_getElem? (i := 204) rfl) rfl) (by decide +kernel) (by decide +kernel) (by decide +kernel) (x_dk dl_0_2_ok 58 rfl))))
  (x_Tok2
  (x_Lok (x_st (I := xI) (xr_aload_n (i := 2) (x_dk dl_0_2_ok 59 rfl))))
  (x_Lok (x_st (I := xI) (xr_aload_n (i := 0) (x_dk dl_0_2_ok 60 rfl))))))))
  (x_Tok2
  (x_Tok2
  (x_Tok2
  (x_Lok (x_st (I := xI) (xr_iload_n (i := 3) (x_dk dl_0_2_ok 61 rfl))))
  (x_Tok2
  (x_Lok (x_st (I := xI) (xr_iconst (n := 1) (z := 1) (v := 1) (x_dk dl_0_2_ok 62 rfl) (by decide) (by decide))))
  (x_Lok (x_st (I := xI) (xr_iadd (x_dk dl_0_2_ok 63 rfl))))))
  (x_Tok2
  (x_Lok (x_st (I := xI) (xr_sld hS (x_dk dl_0_2_ok 64 rfl))))
  (x_Tok2
  (x_Lok (x_st (I := xI) (xr_aload_n (i := 0) (x_dk dl_0_2_ok 65 rfl))))
  (x_Lok (x_st (I := xI) (xr_iload_n (i := 3) (x_dk dl_0_2_ok 66 rfl)))))))
  (x_Tok2
  (x_Tok2
  (x_Lok (x_st (I := xI) (xr_iconst (n := 2) (z := 2) (v := 2) (x_dk dl_0_2_ok 67 rfl) (by decide) (by decide))))
  (x_Tok2
  (x_Lok (x_st (I := xI) (xr_iadd (x_dk dl_0_2_ok 68 rfl))))
  (x_Lok (x_st (I := xI) (xr_sld hS (x_dk dl_0_2_ok 69 rfl))))))
  (x_Tok2
  (x_Lok (x_st (I := xI) (xr_aload_n (i := 0) (x_dk dl_0_2_ok 70 rfl))))
  (x_Tok2
  (x_Lok (x_st (I := xI) (xr_iload_n (i := 3) (x_dk dl_0_2_ok 71 rfl))))
  (x_Lok (x_st (I := xI) (xr_iconst (n := 3) (z := 3) (v := 3) (x_dk dl_0_2_ok 72 rfl) (by decide) (by decide)))))))))
def tb_0_273 : Nat → xE := (x_T 573 (x_T 567 (x_T 558 (x_T 557 (x_L 557 (0, xi_bin xF_add 558, 0, 0)) (x_L 558 (0, xi_sld 559, 0, 0))) (x_T 559 (x_L 559 (2, x_nof, 117, 4)) (x_T 562 (x_L 562 (0, xi_if2 0 2142 565, 0, 0)) (x_L 567 (0, xi_load 1 2 568, 0, 0))))) (x_T 570 (x_T 568 (x_L 568 (0, xi_load 0 2 569, 0, 0)) (x_T 569 (x_L 569 (0, xi_load 3 0 570, 0, 0)) (x_L 570 (0, xi_push (0, 1, 1) 571, 0, 0)))) (x_T 571 (x_L 571 (0, xi_bin xF_add 572, 0, 0)) (x_T 572 (x_L 572 (0, xi_sld 573, 0, 0)) (x_L 573 (0, xi_load 0 2 574, 0, 0)))))) (x_T 578 (x_T 575 (x_T 574 (x_L 574 (0, xi_load 3 0 575, 0, 0)) (x_L 575 (0, xi_push (0, 2, 2) 576, 0, 0))) (x_T 576 (x_L 576 (0, xi_bin xF_add 577, 0, 0)) (x_T 577 (x_L 577 (0, xi_sld 578, 0, 0)) (x_L 578 (0, xi_load 0 2 579, 0, 0))))) (x_T 581 (x_T 579 (x_L 579 (0, xi_load 3 0 580, 0, 0)) (x_T 580 (x_L 580 (0, xi_push (0, 3, 3) 581, 0, 0)) (x_L 581 (0, xi_bin xF_add 582, 0, 0)))) (x_T 582 (x_L 582 (0, xi_sld 583, 0, 0)) (x_T 583 (x_L 583 (2, x_nof, 48, 4)) (x_L 586 (0, xi_load 2 2 587, 0, 0)))))))
set_option maxRecDepth 20000 in
set_option maxHeartbeats 4000000 in
theorem tb_0_273_ok (K : xKx) (hK : x_KP K) (hS : ∀ R s A H V sc, K R s A H V sc → x_Scr R s A H V sc) : ∀ pc, x_EOq cls K xI m_0 pc (tb_0_273 pc) :=
  (x_Tok2
  (x_Tok2
  (x_Tok2
  (x_Tok2
  (x_Lok (x_st (I := xI) (xr_iadd (x_dk dl_0_2_ok 73 rfl))))
  (x_Lok (x_st (I := xI) (xr_sld hS (x_dk dl_0_2_ok 74 rfl)))))
  (x_Tok2
  (x_Lok (x_ca (I := xI) (q' := m_117) rfl (xr_callV (q' := m_117) (ix := 45) (n := 3) (in_t11 (List.mem_of_getElem? (i := 32) rfl) rfl) good_w (in_t1 (List.mem_of_getElem? (i := 14) rfl) rfl) (in_t11 (List.mem_of_getElem? (i := 29) rfl) rfl) (in_t11 (List.mem_of_getElem? (i := 30) rfl) rfl) (in_t11 (List.mem_of_getElem? (i := 31) rfl) rfl) (by decide +kernel) (by decide +kernel) (by decide +kernel) (x_dk dl_0_2_ok 75 rfl))))
  (x_Tok2
  (x_Lok (x_st (I := xI) (xr_icmpeq (off := 1580) (tg := 2142) (x_dk dl_0_2_ok 76 rfl) (by decide))))
  (x_Lok (x_st (I := xI) (xr_aload_n (i := 1) (x_dk dl_0_2_ok 77 rfl)))))))
  (x_Tok2
  (x_Tok2
  (x_Lok (x_st (I := xI) (xr_aload_n (i := 0) (x_dk dl_0_2_ok 78 rfl))))
  (x_Tok2
  (x_Lok (x_st (I := xI) (xr_iload_n (i := 3) (x_dk dl_0_2_ok 79 rfl))))
  (x_Lok (x_st (I := xI) (xr_iconst (n := 1) (z := 1) (v := 1) (x_dk dl_0_2_ok 80 rfl) (by decide) (by decide))))))
  (x_Tok2
  (x_Lok (x_st (I := xI) (xr_iadd (x_dk dl_0_2_ok 81 rfl))))
  (x_Tok2
  (x_Lok (x_st (I := xI) (xr_sld hS (x_dk dl_0_2_ok 82 rfl))))
  (x_Lok (x_st (I := xI) (xr_aload_n (i := 0) (x_dk dl_0_2_ok 83 rfl))))))))
  (x_Tok2
  (x_Tok2
  (x_Tok2
  (x_Lok (x_st (I := xI) (xr_iload_n (i := 3) (x_dk dl_0_2_ok 84 rfl))))
  (x_Lok (x_st (I := xI) (xr_iconst (n := 2) (z := 2) (v := 2) (x_dk dl_0_2_ok 85 rfl) (by decide) (by decide)))))
  (x_Tok2
  (x_Lok (x_st (I := xI) (xr_iadd (x_dk dl_0_2_ok 86 rfl))))
  (x_Tok2
  (x_Lok (x_st (I := xI) (xr_sld hS (x_dk dl_0_2_ok 87 rfl))))
  (x_Lok (x_st (I := xI) (xr_aload_n (i := 0) (x_dk dl_0_2_ok 88 rfl)))))))
  (x_Tok2
  (x_Tok2
  (x_Lok (x_st (I := xI) (xr_iload_n (i := 3) (x_dk dl_0_2_ok 89 rfl))))
  (x_Tok2
  (x_Lok (x_st (I := xI) (xr_iconst (n := 3) (z := 3) (v := 3) (x_dk dl_0_2_ok 90 rfl) (by decide) (by decide))))
  (x_Lok (x_st (I := xI) (xr_iadd (x_dk dl_0_2_ok 91 rfl))))))
  (x_Tok2
  (x_Lok (x_st (I := xI) (xr_sld hS (x_dk dl_0_2_ok 92 rfl))))
  (x_Tok2
  (x_Lok (x_ca (I := xI) (q' := m_48) rfl (xr_callV (q' := m_48) (ix := 46) (n := 3) (in_t4 (List.mem_of_getElem? (i := 209) rfl) rfl) good_w (in_t1 (List.mem_of_getElem? (i := 1) rfl) rfl) (in_t4 (List.mem_of_getElem? (i := 206) rfl) rfl) (in_t4 (List.mem_of_getElem? (i := 207) rfl) rfl) (in_t4 (List.mem_of_getElem? (i := 208) rfl) rfl) (by decide +kernel) (by decide +kernel) (by decide +kernel) (x_dk dl_0_2_ok 93 rfl))))
  (x_Lok (x_st (I := xI) (xr_aload_n (i := 2) (x_dk dl_0_2_ok 94 rfl)))))))))
def tb_0_295 : Nat → xE := (x_T 597 (x_T 591 (x_T 588 (x_T 587 (x_L 587 (0, xi_load 0 2 588, 0, 0)) (x_L 588 (0, xi_load 3 0 589, 0, 0))) (x_T 589 (x_L 589 (0, xi_push (0, 1, 1) 590, 0, 0)) (x_T 590 (x_L 590 (0, xi_bin xF_add 591, 0, 0)) (x_L 591 (0, xi_sld 592, 0, 0))))) (x_T 594 (x_T 592 (x_L 592 (0, xi_load 0 2 593, 0, 0)) (x_T 593 (x_L 593 (0, xi_load 3 0 594, 0, 0)) (x_L 594 (0, xi_push (0, 2, 2) 595, 0, 0)))) (x_T 595 (x_L 595 (0, xi_bin xF_add 596, 0, 0)) (x_T 596 (x_L 596 (0, xi_sld 597, 0, 0)) (x_L 597 (0, xi_load 0 2 598, 0, 0)))))) (x_T 605 (x_T 600 (x_T 598 (x_L 598 (0, xi_load 3 0 599, 0, 0)) (x_T 599 (x_L 599 (0, xi_push (0, 3, 3) 600, 0, 0)) (x_L 600 (0, xi_bin xF_add 601, 0, 0)))) (x_T 601 (x_L 601 (0, xi_sld 602, 0, 0)) (x_T 602 (x_L 602 (2, x_nof, 120, 4)) (x_L 605 (0, xi_if2 0 2142 608, 0, 0))))) (x_T 612 (x_T 610 (x_L 610 (0, xi_load 1 2 611, 0, 0)) (x_T 611 (x_L 611 (0, xi_load 0 2 612, 0, 0)) (x_L 612 (0, xi_load 3 0 613, 0, 0)))) (x_T 613 (x_L 613 (0, xi_push (0, 1, 1) 614, 0, 0)) (x_T 614 (x_L 614 (0, xi_bin xF_add 615, 0, 0)) (x_L 615 (0, xi_sld 616, 0, 0)))))))
set_option maxRecDepth 20000 in
set_option maxHeartbeats 4000000 in
theorem tb_0_295_ok (K : xKx) (hK : x_KP K) (hS : ∀ R s A H V sc, K R s A H V sc → x_Scr R s A H V sc) : ∀ pc, x_EOq cls K xI m_0 pc (tb_0_295 pc) :=
  (x_Tok2
  (x_Tok2
  (x_Tok2
  (x_Tok2
  (x_Lok (x_st (I := xI) (xr_aload_n (i := 0) (x_dk dl_0_2_ok 95 rfl))))
  (x_Lok (x_st (I := xI) (xr_iload_n (i := 3) (x_dk dl_0_2_ok 96 rfl)))))
  (x_Tok2
  (x_Lok (x_st (I := xI) (xr_iconst (n := 1) (z := 1) (v := 1) (x_dk dl_0_2_ok 97 rfl) (by decide) (by decide))))
  (x_Tok2
  (x_Lok (x_st (I := xI) (xr_iadd (x_dk dl_0_2_ok 98 rfl))))
  (x_Lok (x_st (I := xI) (xr_sld hS (x_dk dl_0_2_ok 99 rfl)))))))
  (x_Tok2
  (x_Tok2
  (x_Lok (x_st (I := xI) (xr_aload_n (i := 0) (x_dk dl_0_3_ok 0 rfl))))
  (x_Tok2
  (x_Lok (x_st (I := xI) (xr_iload_n (i := 3) (x_dk dl_0_3_ok 1 rfl))))
  (x_Lok (x_st (I := xI) (xr_iconst (n := 2) (z := 2) (v := 2) (x_dk dl_0_3_ok 2 rfl) (by decide) (by decide))))))
  (x_Tok2
  (x_Lok (x_st (I := xI) (xr_iadd (x_dk dl_0_3_ok 3 rfl))))
  (x_Tok2
  (x_Lok (x_st (I := xI) (xr_sld hS (x_dk dl_0_3_ok 4 rfl))))
  (x_Lok (x_st (I := xI) (xr_aload_n (i := 0) (x_dk dl_0_3_ok 5 rfl))))))))
  (x_Tok2
  (x_Tok2
  (x_Tok2
  (x_Lok (x_st (I := xI) (xr_iload_n (i := 3) (x_dk dl_0_3_ok 6 rfl))))
  (x_Tok2
  (x_Lok (x_st (I := xI) (xr_iconst (n := 3) (z := 3) (v := 3) (x_dk dl_0_3_ok 7 rfl) (by decide) (by decide))))
  (x_Lok (x_st (I := xI) (xr_iadd (x_dk dl_0_3_ok 8 rfl))))))
  (x_Tok2
  (x_Lok (x_st (I := xI) (xr_sld hS (x_dk dl_0_3_ok 9 rfl))))
  (x_Tok2
  (x_Lok (x_ca (I := xI) (q' := m_120) rfl (xr_callV (q' := m_120) (ix := 49) (n := 3) (in_t11 (List.mem_of_getElem? (i := 45) rfl) rfl) good_w (in_t1 (List.mem_of_getElem? (i := 14) rfl) rfl) (in_t11 (List.mem_of_getElem? (i := 42) rfl) rfl) (in_t11 (List.mem_of_getElem? (i := 43) rfl) rfl) (in_t11 (List.mem_of_getElem? (i := 44) rfl) rfl) (by decide +kernel) (by decide +kernel) (by decide +kernel) (x_dk dl_0_3_ok 10 rfl))))
  (x_Lok (x_st (I := xI) (xr_icmpeq (off := 1537) (tg := 2142) (x_dk dl_0_3_ok 11 rfl) (by decide)))))))
  (x_Tok2
  (x_Tok2
  (x_Lok (x_st (I := xI) (xr_aload_n (i := 1) (x_dk dl_0_3_ok 12 rfl))))
  (x_Tok2
  (x_Lok (x_st (I := xI) (xr_aload_n (i := 0) (x_dk dl_0_3_ok 13 rfl))))
  (x_Lok (x_st (I := xI) (xr_iload_n (i := 3) (x_dk dl_0_3_ok 14 rfl))))))
  (x_Tok2
  (x_Lok (x_st (I := xI) (xr_iconst (n := 1) (z := 1) (v := 1) (x_dk dl_0_3_ok 15 rfl) (by decide) (by decide))))
  (x_Tok2
  (x_Lok (x_st (I := xI) (xr_iadd (x_dk dl_0_3_ok 16 rfl))))
  (x_Lok (x_st (I := xI) (xr_sld hS (x_dk dl_0_3_ok 17 rfl)))))))))
def tb_0_318 : Nat → xE := (x_T 626 (x_T 620 (x_T 617 (x_T 616 (x_L 616 (0, xi_load 0 2 617, 0, 0)) (x_L 617 (0, xi_load 3 0 618, 0, 0))) (x_T 618 (x_L 618 (0, xi_push (0, 2, 2) 619, 0, 0)) (x_T 619 (x_L 619 (0, xi_bin xF_add 620, 0, 0)) (x_L 620 (0, xi_sld 621, 0, 0))))) (x_T 623 (x_T 621 (x_L 621 (0, xi_load 0 2 622, 0, 0)) (x_T 622 (x_L 622 (0, xi_load 3 0 623, 0, 0)) (x_L 623 (0, xi_push (0, 3, 3) 624, 0, 0)))) (x_T 624 (x_L 624 (0, xi_bin xF_add 625, 0, 0)) (x_T 625 (x_L 625 (0, xi_sld 626, 0, 0)) (x_L 626 (0, xi_load 0 2 627, 0, 0)))))) (x_T 634 (x_T 629 (x_T 627 (x_L 627 (0, xi_load 3 0 628, 0, 0)) (x_T 628 (x_L 628 (0, xi_push (0, 4, 4) 629, 0, 0)) (x_L 629 (0, xi_bin xF_add 630, 0, 0)))) (x_T 630 (x_L 630 (0, xi_sld 631, 0, 0)) (x_T 631 (x_L 631 (2, x_nof, 49, 5)) (x_L 634 (0, xi_load 2 2 635, 0, 0))))) (x_T 637 (x_T 635 (x_L 635 (0, xi_load 0 2 636, 0, 0)) (x_T 636 (x_L 636 (0, xi_load 3 0 637, 0, 0)) (x_L 637 (0, xi_push (0, 1, 1) 638, 0, 0)))) (x_T 638 (x_L 638 (0, xi_bin xF_add 639, 0, 0)) (x_T 639 (x_L 639 (0, xi_sld 640, 0, 0)) (x_L 640 (0, xi_load 0 2 641, 0, 0)))))))
set_option maxRecDepth 20000 in
set_option maxHeartbeats 4000000 in
theorem tb_0_318_ok (K : xKx) (hK : x_KP K) (hS : ∀ R s A H V sc, K R s A H V sc → x_Scr R s A H V sc) : ∀ pc, x_EOq cls K xI m_0 pc (tb_0_318 pc) :=
  (x_Tok2
  (x_Tok2
  (x_Tok2
  (x_Tok2
  (x_Lok (x_st (I := xI) (xr_aload_n (i := 0) (x_dk dl_0_3_ok 18 rfl))))
  (x_Lok (x_st (I := xI) (xr_iload_n (i := 3) (x_dk dl_0_3_ok 19 rfl)))))
  (x_Tok2
  (x_Lok (x_st (I := xI) (xr_iconst (n := 2) (z := 2) (v := 2) (x_dk dl_0_3_ok 20 rfl) (by decide) (by decide))))
  (x_Tok2
  (x_Lok (x_st (I := xI) (xr_iadd (x_dk dl_0_3_ok 21 rfl))))
  (x_Lok (x_st (I := xI) (xr_sld hS (x_dk dl_0_3_ok 22 rfl)))))))
  (x_Tok2
  (x_Tok2
  (x_Lok (x_st (I := xI) (xr_aload_n (i := 0) (x_dk dl_0_3_ok 23 rfl))))
  (x_Tok2
  (x_Lok (x_st (I := xI) (xr_iload_n (i := 3) (x_dk dl_0_3_ok 24 rfl))))
  (x_Lok (x_st (I := xI) (xr_iconst (n := 3) (z := 3) (v := 3) (x_dk dl_0_3_ok 25 rfl) (by decide) (by decide))))))
  (x_Tok2
  (x_Lok (x_st (I := xI) (xr_iadd (x_dk dl_0_3_ok 26 rfl))))
  (x_Tok2
  (x_Lok (x_st (I := xI) (xr_sld hS (x_dk dl_0_3_ok 27 rfl))))
  (x_Lok (x_st (I := xI) (xr_aload_n (i := 0) (x_dk dl_0_3_ok 28 rfl))))))))
  (x_Tok2
  (x_Tok2
  (x_Tok2
  (x_Lok (x_st (I := xI) (xr_iload_n (i := 3) (x_dk dl_0_3_ok 29 rfl))))
  (x_Tok2
  (x_Lok (x_st (I := xI) (xr_iconst (n := 4) (z := 4) (v := 4) (x_dk dl_0_3_ok 30 rfl) (by decide) (by decide))))
  (x_Lok (x_st (I := xI) (xr_iadd (x_dk dl_0_3_ok 31 rfl))))))
  (x_Tok2
  (x_Lok (x_st (I := xI) (xr_sld hS (x_dk dl_0_3_ok 32 rfl))))
  (x_Tok2
  (x_Lok (x_ca (I := xI) (q' := m_49) rfl (xr_callV (q' := m_49) (ix := 50) (n := 4) (in_t4 (List.mem_of_getElem? (i := 220) rfl) rfl) good_w (in_t1 (List.mem_of_getElem? (i := 1) rfl) rfl) (in_t4 (List.mem_of_getElem? (i := 217) rfl) rfl) (in_t4 (List.mem_of_getElem? (i := 218) rfl) rfl) (in_t4 (List.mem_of_getElem? (i := 219) rfl) rfl) (by decide +kernel) (by decide +kernel) (by decide +kernel) (x_dk dl_0_3_ok 33 rfl))))
  (x_Lok (x_st (I := xI) (xr_aload_n (i := 2) (x_dk dl_0_3_ok 34 rfl)))))))
  (x_Tok2
  (x_Tok2
  (x_Lok (x_st (I := xI) (xr_aload_n (i := 0) (x_dk dl_0_3_ok 35 rfl))))
  (x_Tok2
  (x_Lok (x_st (I := xI) (xr_iload_n (i := 3) (x_dk dl_0_3_ok 36 rfl))))
  (x_Lok (x_st (I := xI) (xr_iconst (n := 1) (z := 1) (v := 1) (x_dk dl_0_3_ok 37 rfl) (by decide) (by decide))))))
  (x_Tok2
  (x_Lok (x_st (I := xI) (xr_iadd (x_dk dl_0_3_ok 38 rfl))))
  (x_Tok2
  (x_Lok (x_st (I := xI) (xr_sld hS (x_dk dl_0_3_ok 39 rfl))))
  (x_Lok (x_st (I := xI) (xr_aload_n (i := 0) (x_dk dl_0_3_ok 40 rfl)))))))))
def tb_0_341 : Nat → xE := (x_T 651 (x_T 645 (x_T 642 (x_T 641 (x_L 641 (0, xi_load 3 0 642, 0, 0)) (x_L 642 (0, xi_push (0, 2, 2) 643, 0, 0))) (x_T 643 (x_L 643 (0, xi_bin xF_add 644, 0, 0)) (x_T 644 (x_L 644 (0, xi_sld 645, 0, 0)) (x_L 645 (0, xi_load 0 2 646, 0, 0))))) (x_T 648 (x_T 646 (x_L 646 (0, xi_load 3 0 647, 0, 0)) (x_T 647 (x_L 647 (0, xi_push (0, 3, 3) 648, 0, 0)) (x_L 648 (0, xi_bin xF_add 649, 0, 0)))) (x_T 649 (x_L 649 (0, xi_sld 650, 0, 0)) (x_T 650 (x_L 650 (0, xi_load 0 2 651, 0, 0)) (x_L 651 (0, xi_load 3 0 652, 0, 0)))))) (x_T 663 (x_T 654 (x_T 652 (x_L 652 (0, xi_push (0, 4, 4) 653, 0, 0)) (x_T 653 (x_L 653 (0, xi_bin xF_add 654, 0, 0)) (x_L 654 (0, xi_sld 655, 0, 0)))) (x_T 655 (x_L 655 (2, x_nof, 121, 5)) (x_T 658 (x_L 658 (0, xi_if2 0 2142 661, 0, 0)) (x_L 663 (0, xi_load 1 2 664, 0, 0))))) (x_T 666 (x_T 664 (x_L 664 (0, xi_load 0 2 665, 0, 0)) (x_T 665 (x_L 665 (0, xi_load 3 0 666, 0, 0)) (x_L 666 (0, xi_push (0, 1, 1) 667, 0, 0)))) (x_T 667 (x_L 667 (0, xi_bin xF_add 668, 0, 0)) (x_T 668 (x_L 668 (0, xi_sld 669, 0, 0)) (x_L 669 (0, xi_load 0 2 670, 0, 0)))))))
set_option maxRecDepth 20000 in
set_option maxHeartbeats 4000000 in
theorem tb_0_341_ok (K : xKx) (hK : x_KP K) (hS : ∀ R s A H V sc, K R s A H V sc → x_Scr R s A H V sc) : ∀ pc, x_EOq cls K xI m_0 pc (tb_0_341 pc) :=
  (x_Tok2
  (x_Tok2
  (x_Tok2
  (x_Tok2
  (x_Lok (x_st (I := xI) (xr_iload_n (i := 3) (x_dk dl_0_3_ok 41 rfl))))
  (x_Lok (x_st (I := xI) (xr_iconst (n := 2) (z := 2) (v := 2) (x_dk dl_0_3_ok 42 rfl) (by decide) (by decide)))))
  (x_Tok2
  (x_Lok (x_st (I := xI) (xr_iadd (x_dk dl_0_3_ok 43 rfl))))
  (x_Tok2
  (x_Lok (x_st (I := xI) (xr_sld hS (x_dk dl_0_3_ok 44 rfl))))
  (x_Lok (x_st (I := xI) (xr_aload_n (i := 0) (x_dk dl_0_3_ok 45 rfl)))))))
  (x_Tok2
  (x_Tok2
  (x_Lok (x_st (I := xI) (xr_iload_n (i := 3) (x_dk dl_0_3_ok 46 rfl))))
  (x_Tok2
  (x_Lok (x_st (I := xI) (xr_iconst (n := 3) (z := 3) (v := 3) (x_dk dl_0_3_ok 47 rfl) (by decide) (by decide))))
  (x_Lok (x_st (I := xI) (xr_iadd (x_dk dl_0_3_ok 48 rfl))))))
  (x_Tok2
  (x_Lok (x_st (I := xI) (xr_sld hS (x_dk dl_0_3_ok 49 rfl))))
  (x_Tok2
  (x_Lok (x_st (I := xI) (xr_aload_n (i := 0) (x_dk dl_0_3_ok 50 rfl))))
  (x_Lok (x_st (I := xI) (xr_iload_n (i := 3) (x_dk dl_0_3_ok 51 rfl))))))))
  (x_Tok2
  (x_Tok2
  (x_Tok2
  (x_Lok (x_st (I := xI) (xr_iconst (n := 4) (z := 4) (v := 4) (x_dk dl_0_3_ok 52 rfl) (by decide) (by decide))))
  (x_Tok2
  (x_Lok (x_st (I := xI) (xr_iadd (x_dk dl_0_3_ok 53 rfl))))
  (x_Lok (x_st (I := xI) (xr_sld hS (x_dk dl_0_3_ok 54 rfl))))))
  (x_Tok2
  (x_Lok (x_ca (I := xI) (q' := m_121) rfl (xr_callV (q' := m_121) (ix := 53) (n := 4) (in_t11 (List.mem_of_getElem? (i := 58) rfl) rfl) good_w (in_t1 (List.mem_of_getElem? (i := 14) rfl) rfl) (in_t11 (List.mem_of_getElem? (i := 55) rfl) rfl) (in_t11 (List.mem_of_getElem? (i := 56) rfl) rfl) (in_t11 (List.mem_of_getElem? (i := 57) rfl) rfl) (by decide +kernel) (by decide +kernel) (by decide +kernel) (x_dk dl_0_3_ok 55 rfl))))
  (x_Tok2
  (x_Lok (x_st (I := xI) (xr_icmpeq (off := 1484) (tg := 2142) (x_dk dl_0_3_ok 56 rfl) (by decide))))
  (x_Lok (x_st (I := xI) (xr_aload_n (i := 1) (x_dk dl_0_3_ok 57 rfl)))))))
  (x_Tok2
  (x_Tok2
  (x_Lok (x_st (I := xI) (xr_aload_n (i := 0) (x_dk dl_0_3_ok 58 rfl))))
  (x_Tok2
  (x_Lok (x_st (I := xI) (xr_iload_n (i := 3) (x_dk dl_0_3_ok 59 rfl))))
  (x_Lok (x_st (I := xI) (xr_iconst (n := 1) (z := 1) (v := 1) (x_dk dl_0_3_ok 60 rfl) (by decide) (by decide))))))
  (x_Tok2
  (x_Lok (x_st (I := xI) (xr_iadd (x_dk dl_0_3_ok 61 rfl))))
  (x_Tok2
  (x_Lok (x_st (I := xI) (xr_sld hS (x_dk dl_0_3_ok 62 rfl))))
  (x_Lok (x_st (I := xI) (xr_aload_n (i := 0) (x_dk dl_0_3_ok 63 rfl)))))))))
def tb_0_364 : Nat → xE := (x_T 682 (x_T 674 (x_T 671 (x_T 670 (x_L 670 (0, xi_load 3 0 671, 0, 0)) (x_L 671 (0, xi_push (0, 2, 2) 672, 0, 0))) (x_T 672 (x_L 672 (0, xi_bin xF_add 673, 0, 0)) (x_T 673 (x_L 673 (0, xi_sld 674, 0, 0)) (x_L 674 (0, xi_load 0 2 675, 0, 0))))) (x_T 677 (x_T 675 (x_L 675 (0, xi_load 3 0 676, 0, 0)) (x_T 676 (x_L 676 (0, xi_push (0, 3, 3) 677, 0, 0)) (x_L 677 (0, xi_bin xF_add 678, 0, 0)))) (x_T 678 (x_L 678 (0, xi_sld 679, 0, 0)) (x_T 679 (x_L 679 (2, x_nof, 50, 4)) (x_L 682 (0, xi_load 2 2 683, 0, 0)))))) (x_T 687 (x_T 684 (x_T 683 (x_L 683 (0, xi_load 0 2 684, 0, 0)) (x_L 684 (0, xi_load 3 0 685, 0, 0))) (x_T 685 (x_L 685 (0, xi_push (0, 1, 1) 686, 0, 0)) (x_T 686 (x_L 686 (0, xi_bin xF_add 687, 0, 0)) (x_L 687 (0, xi_sld 688, 0, 0))))) (x_T 690 (x_T 688 (x_L 688 (0, xi_load 0 2 689, 0, 0)) (x_T 689 (x_L 689 (0, xi_load 3 0 690, 0, 0)) (x_L 690 (0, xi_push (0, 2, 2) 691, 0, 0)))) (x_T 691 (x_L 691 (0, xi_bin xF_add 692, 0, 0)) (x_T 692 (x_L 692 (0, xi_sld 693, 0, 0)) (x_L 693 (0, xi_load 0 2 694, 0, 0)))))))
set_option maxRecDepth 20000 in
set_option maxHeartbeats 4000000 in
theorem tb_0_364_ok (K : xKx) (hK : x_KP K) (hS : ∀ R s A H V sc, K R s A H V sc → x_Scr R s A H V sc) : ∀ pc, x_EOq cls K xI m_0 pc (tb_0_364 pc) :=
  (x_Tok2
  (x_Tok2
  (x_Tok2
  (x_Tok2
  (x_Lok (x_st (I := xI) (xr_iload_n (i := 3) (x_dk dl_0_3_ok 64 rfl))))
  (x_Lok (x_st (I := xI) (xr_iconst (n := 2) (z := 2) (v := 2) (x_dk dl_0_3_ok 65 rfl) (by decide) (by decide)))))
  (x_Tok2
  (x_Lok (x_st (I := xI) (xr_iadd (x_dk dl_0_3_ok 66 rfl))))
  (x_Tok2
  (x_Lok (x_st (I := xI) (xr_sld hS (x_dk dl_0_3_ok 67 rfl))))
  (x_Lok (x_st (I := xI) (xr_aload_n (i := 0) (x_dk dl_0_3_ok 68 rfl)))))))
  (x_Tok2
  (x_Tok2
  (x_Lok (x_st (I := xI) (xr_iload_n (i := 3) (x_dk dl_0_3_ok 69 rfl))))
  (x_Tok2
  (x_Lok (x_st (I := xI) (xr_iconst (n := 3) (z := 3) (v := 3) (x_dk dl_0_3_ok 70 rfl) (by decide) (by decide))))
  (x_Lok (x_st (I := xI) (xr_iadd (x_dk dl_0_3_ok 71 rfl))))))
  (x_Tok2
  (x_Lok (x_st (I := xI) (xr_sld hS (x_dk dl_0_3_ok 72 rfl))))
  (x_Tok2
  (x_Lok (x_ca (I := xI) (q' := m_50) rfl (xr_callV (q' := m_50) (ix := 54) (n := 3) (in_t4 (List.mem_of_getElem? (i := 227) rfl) rfl) good_w (in_t1 (List.mem_of_getElem? (i := 1) rfl) rfl) (in_t4 (List.mem_of_getElem? (i := 224) rfl) rfl) (in_t4 (List.mem_of_getElem? (i := 225) rfl) rfl) (in_t4 (List.mem_of_getElem? (i := 226) rfl) rfl) (by decide +kernel) (by decide +kernel) (by decide +kernel) (x_dk dl_0_3_ok 73 rfl))))
  (x_Lok (x_st (I := xI) (xr_aload_n (i := 2) (x_dk dl_0_3_ok 74 rfl))))))))
  (x_Tok2
  (x_Tok2
  (x_Tok2
  (x_Lok (x_st (I := xI) (xr_aload_n (i := 0) (x_dk dl_0_3_ok 75 rfl))))
  (x_Lok (x_st (I := xI) (xr_iload_n (i := 3) (x_dk dl_0_3_ok 76 rfl)))))
  (x_Tok2
  (x_Lok (x_st (I := xI) (xr_iconst (n := 1) (z := 1) (v := 1) (x_dk dl_0_3_ok 77 rfl) (by decide) (by decide))))
  (x_Tok2
  (x_Lok (x_st (I := xI) (xr_iadd (x_dk dl_0_3_ok 78 rfl))))
  (x_Lok (x_st (I := xI) (xr_sld hS (x_dk dl_0_3_ok 79 rfl)))))))
  (x_Tok2
  (x_Tok2
  (x_Lok (x_st (I := xI) (xr_aload_n (i := 0) (x_dk dl_0_3_ok 80 rfl))))
  (x_Tok2
  (x_Lok (x_st (I := xI) (xr_iload_n (i := 3) (x_dk dl_0_3_ok 81 rfl))))
  (x_Lok (x_st (I := xI) (xr_iconst (n := 2) (z := 2) (v := 2) (x_dk dl_0_3_ok 82 rfl) (by decide) (by decide))))))
  (x_Tok2
  (x_Lok (x_st (I := xI) (xr_iadd (x_dk dl_0_3_ok 83 rfl))))
  (x_Tok2
  (x_Lok (x_st (I := xI) (xr_sld hS (x_dk dl_0_3_ok 84 rfl))))
  (x_Lok (x_st (I := xI) (xr_aload_n (i := 0) (x_dk dl_0_3_ok 85 rfl)))))))))
def tb_0_386 : Nat → xE := (x_T 710 (x_T 698 (x_T 695 (x_T 694 (x_L 694 (0, xi_load 3 0 695, 0, 0)) (x_L 695 (0, xi_push (0, 3, 3) 696, 0, 0))) (x_T 696 (x_L 696 (0, xi_bin xF_add 697, 0, 0)) (x_T 697 (x_L 697 (0, xi_sld 698, 0, 0)) (x_L 698 (2, x_nof, 122, 4))))) (x_T 707 (x_T 701 (x_L 701 (0, xi_if2 0 2142 704, 0, 0)) (x_T 706 (x_L 706 (0, xi_load 1 2 707, 0, 0)) (x_L 707 (0, xi_load 0 2 708, 0, 0)))) (x_T 708 (x_L 708 (0, xi_load 3 0 709, 0, 0)) (x_T 709 (x_L 709 (0, xi_push (0, 1, 1) 710, 0, 0)) (x_L 710 (0, xi_bin xF_add 711, 0, 0)))))) (x_T 716 (x_T 713 (x_T 711 (x_L 711 (0, xi_sld 712, 0, 0)) (x_T 712 (x_L 712 (0, xi_load 0 2 713, 0, 0)) (x_L 713 (0, xi_load 3 0 714, 0, 0)))) (x_T 714 (x_L 714 (0, xi_push (0, 2, 2) 715, 0, 0)) (x_T 715 (x_L 715 (0, xi_bin xF_add 716, 0, 0)) (x_L 716 (0, xi_sld 717, 0, 0))))) (x_T 719 (x_T 717 (x_L 717 (0, xi_load 0 2 718, 0, 0)) (x_T 718 (x_L 718 (0, xi_load 3 0 719, 0, 0)) (x_L 719 (0, xi_push (0, 3, 3) 720, 0, 0)))) (x_T 720 (x_L 720 (0, xi_bin xF_add 721, 0, 0)) (x_T 721 (x_L 721 (0, xi_sld 722, 0, 0)) (x_L 722 (0, xi_load 0 2 723, 0, 0)))))))
set_option maxRecDepth 20000 in
set_option maxHeartbeats 4000000 in
theorem tb_0_386_ok (K : xKx) (hK : x_KP K) (hS : ∀ R s A H V sc, K R s A H V sc → x_Scr R s A H V sc) : ∀ pc, x_EOq cls K xI m_0 pc (tb_0_386 pc) :=
  (x_Tok2
  (x_Tok2
  (x_Tok2
  (x_Tok2
  (x_Lok (x_st (I := xI) (xr_iload_n (i := 3) (x_dk dl_0_3_ok 86 rfl))))
  (x_Lok (x_st (I := xI) (xr_iconst (n := 3) (z := 3) (v := 3) (x_dk dl_0_3_ok 87 rfl) (by decide) (by decide)))))
  (x_Tok2
  (x_Lok (x_st (I := xI) (xr_iadd (x_dk dl_0_3_ok 88 rfl))))
  (x_Tok2
  (x_Lok (x_st (I := xI) (xr_sld hS (x_dk dl_0_3_ok 89 rfl))))
  (x_Lok (x_ca (I := xI) (q' := m_122) rfl (xr_callV (q' := m_122) (ix := 57) (n := 3) (in_t11 (List.mem_of_getElem? (i := 65) rfl) rfl) good_w (in_t1 (List.mem_of_getElem? (i := 14) rfl) rfl) (in_t11 (List.mem_of_getElem? (i := 62) rfl) rfl) (in_t11 (List.mem_of_getElem? (i := 63) rfl) rfl) (in_t11 (List.mem_of_getElem? (i := 64) rfl) rfl) (by decide +kernel) (by decide +kernel) (by decide +kernel) (x_dk dl_0_3_ok 90 rfl)))))))
  (x_Tok2
  (x_Tok2
  (x_Lok (x_st (I := xI) (xr_icmpeq (off := 1441) (tg := 2142) (x_dk dl_0_3_ok 91 rfl) (by decide))))
  (x_Tok2
  (x_Lok (x_st (I := xI) (xr_aload_n (i := 1) (x_dk dl_0_3_ok 92 rfl))))
  (x_Lok (x_st (I := xI) (xr_aload_n (i := 0) (x_dk dl_0_3_ok 93 rfl))))))
  (x_Tok2
  (x_Lok (x_st (I := xI) (xr_iload_n (i := 3) (x_dk dl_0_3_ok 94 rfl))))
  (x_Tok2
  (x_Lok (x_st (I := xI) (xr_iconst (n := 1) (z := 1) (v := 1) (x_dk dl_0_3_ok 95 rfl) (by decide) (by decide))))
  (x_Lok (x_st (I := xI) (xr_iadd (x_dk dl_0_3_ok 96 rfl))))))))
  (x_Tok2
  (x_Tok2
  (x_Tok2
  (x_Lok (x_st (I := xI) (xr_sld hS (x_dk dl_0_3_ok 97 rfl))))
  (x_Tok2
  (x_Lok (x_st (I := xI) (xr_aload_n (i := 0) (x_dk dl_0_3_ok 98 rfl))))
  (x_Lok (x_st (I := xI) (xr_iload_n (i := 3) (x_dk dl_0_3_ok 99 rfl))))))
  (x_Tok2
  (x_Lok (x_st (I := xI) (xr_iconst (n := 2) (z := 2) (v := 2) (x_dk dl_0_4_ok 0 rfl) (by decide) (by decide))))
  (x_Tok2
  (x_Lok (x_st (I := xI) (xr_iadd (x_dk dl_0_4_ok 1 rfl))))
  (x_Lok (x_st (I := xI) (xr_sld hS (x_dk dl_0_4_ok 2 rfl)))))))
  (x_Tok2
  (x_Tok2
  (x_Lok (x_st (I := xI) (xr_aload_n (i := 0) (x_dk dl_0_4_ok 3 rfl))))
  (x_Tok2
  (x_Lok (x_st (I := xI) (xr_iload_n (i := 3) (x_dk dl_0_4_ok 4 rfl))))
  (x_Lok (x_st (I := xI) (xr_iconst (n := 3) (z := 3) (v := 3) (x_dk dl_0_4_ok 5 rfl) (by decide) (by decide))))))
  (x_Tok2
  (x_Lok (x_st (I := xI) (xr_iadd (x_dk dl_0_4_ok 6 rfl))))
  (x_Tok2
  (x_Lok (x_st (I := xI) (xr_sld hS (x_dk dl_0_4_ok 7 rfl))))
  (x_Lok (x_st (I := xI) (xr_aload_n (i := 0) (x_dk dl_0_4_ok 8 rfl)))))))))
def tb_0_409 : Nat → xE := (x_T 735 (x_T 727 (x_T 724 (x_T 723 (x_L 723 (0, xi_load 3 0 724, 0, 0)) (x_L 724 (0, xi_push (0, 4, 4) 725, 0, 0))) (x_T 725 (x_L 725 (0, xi_bin xF_add 726, 0, 0)) (x_T 726 (x_L 726 (0, xi_sld 727, 0, 0)) (x_L 727 (0, xi_load 0 2 728, 0, 0))))) (x_T 730 (x_T 728 (x_L 728 (0, xi_load 3 0 729, 0, 0)) (x_T 729 (x_L 729 (0, xi_push (0, 5, 5) 730, 0, 0)) (x_L 730 (0, xi_bin xF_add 731, 0, 0)))) (x_T 731 (x_L 731 (0, xi_sld 732, 0, 0)) (x_T 732 (x_L 732 (2, x_nof, 51, 6)) (x_L 735 (0, xi_load 2 2 736, 0, 0)))))) (x_T 741 (x_T 738 (x_T 736 (x_L 736 (0, xi_load 0 2 737, 0, 0)) (x_T 737 (x_L 737 (0, xi_load 3 0 738, 0, 0)) (x_L 738 (0, xi_push (0, 1, 1) 739, 0, 0)))) (x_T 739 (x_L 739 (0, xi_bin xF_add 740, 0, 0)) (x_T 740 (x_L 740 (0, xi_sld 741, 0, 0)) (x_L 741 (0, xi_load 0 2 742, 0, 0))))) (x_T 744 (x_T 742 (x_L 742 (0, xi_load 3 0 743, 0, 0)) (x_T 743 (x_L 743 (0, xi_push (0, 2, 2) 744, 0, 0)) (x_L 744 (0, xi_bin xF_add 745, 0, 0)))) (x_T 745 (x_L 745 (0, xi_sld 746, 0, 0)) (x_T 746 (x_L 746 (0, xi_load 0 2 747, 0, 0)) (x_L 747 (0, xi_load 3 0 748, 0, 0)))))))
set_option maxRecDepth 20000 in
set_option maxHeartbeats 4000000 in
theorem tb_0_409_ok (K : xKx) (hK : x_KP K) (hS : ∀ R s A H V sc, K R s A H V sc → x_Scr R s A H V sc) : ∀ pc, x_EOq cls K xI m_0 pc (tb_0_409 pc) :=
  (x_Tok2
  (x_Tok2
  (x_Tok2
  (x_Tok2
  (x_Lok (x_st (I := xI) (xr_iload_n (i := 3) (x_dk dl_0_4_ok 9 rfl))))
  (x_Lok (x_st (I := xI) (xr_iconst (n := 4) (z := 4) (v := 4) (x_dk dl_0_4_ok 10 rfl) (by decide) (by decide)))))
  (x_Tok2
  (x_Lok (x_st (I := xI) (xr_iadd (x_dk dl_0_4_ok 11 rfl))))
  (x_Tok2
  (x_Lok (x_st (I := xI) (xr_sld hS (x_dk dl_0_4_ok 12 rfl))))
  (x_Lok (x_st (I := xI) (xr_aload_n (i := 0) (x_dk dl_0_4_ok 13 rfl)))))))
  (x_Tok2
  (x_Tok2
  (x_Lok (x_st (I := xI) (xr_iload_n (i := 3) (x_dk dl_0_4_ok 14 rfl))))
  (x_Tok2
  (x_Lok (x_st (I := xI) (xr_iconst (n := 5) (z := 5) (v := 5) (x_dk dl_0_4_ok 15 rfl) (by decide) (by decide))))
  (x_Lok (x_st (I := xI) (xr_iadd (x_dk dl_0_4_ok 16 rfl))))))
  (x_Tok2
  (x_Lok (x_st (I := xI) (xr_sld hS (x_dk dl_0_4_ok 17 rfl))))
  (x_Tok2
  (x_Lok (x_ca (I := xI) (q' := m_51) rfl (xr_callV (q' := m_51) (ix := 58) (n := 5) (in_t4 (List.mem_of_getElem? (i := 235) rfl) rfl) good_w (in_t1 (List.mem_of_getElem? (i := 1) rfl) rfl) (in_t4 (List.mem_of_getElem? (i := 232) rfl) rfl) (in_t4 (List.mem_of_getElem? (i := 233) rfl) rfl) (in_t4 (List.mem_of_getElem? (i := 234) rfl) rfl) (by decide +kernel) (by decide +kernel) (by decide +kernel) (x_dk dl_0_4_ok 18 rfl))))
  (x_Lok (x_st (I := xI) (xr_aload_n (i := 2) (x_dk dl_0_4_ok 19 rfl))))))))
  (x_Tok2
  (x_Tok2
  (x_Tok2
  (x_Lok (x_st (I := xI) (xr_aload_n (i := 0) (x_dk dl_0_4_ok 20 rfl))))
  (x_Tok2
  (x_Lok (x_st (I := xI) (xr_iload_n (i := 3) (x_dk dl_0_4_ok 21 rfl))))
  (x_Lok (x_st (I := xI) (xr_iconst (n := 1) (z := 1) (v := 1) (x_dk dl_0_4_ok 22 rfl) (by decide) (by decide))))))
  (x_Tok2
  (x_Lok (x_st (I := xI) (xr_iadd (x_dk dl_0_4_ok 23 rfl))))
  (x_Tok2
  (x_Lok (x_st (I := xI) (xr_sld hS (x_dk dl_0_4_ok 24 rfl))))
  (x_Lok (x_st (I := xI) (xr_aload_n (i := 0) (x_dk dl_0_4_ok 25 rfl)))))))
  (x_Tok2
  (x_Tok2
  (x_Lok (x_st (I := xI) (xr_iload_n (i := 3) (x_dk dl_0_4_ok 26 rfl))))
  (x_Tok2
  (x_Lok (x_st (I := xI) (xr_iconst (n := 2) (z := 2) (v := 2) (x_dk dl_0_4_ok 27 rfl) (by decide) (by decide))))
  (x_Lok (x_st (I := xI) (xr_iadd (x_dk dl_0_4_ok 28 rfl))))))
  (x_Tok2
  (x_Lok (x_st (I := xI) (xr_sld hS (x_dk dl_0_4_ok 29 rfl))))
  (x_Tok2
  (x_Lok (x_st (I := xI) (xr_aload_n (i := 0) (x_dk dl_0_4_ok 30 rfl))))
  (x_Lok (x_st (I := xI) (xr_iload_n (i := 3) (x_dk dl_0_4_ok 31 rfl)))))))))
def tb_0_432 : Nat → xE := (x_T 758 (x_T 752 (x_T 749 (x_T 748 (x_L 748 (0, xi_push (0, 3, 3) 749, 0, 0)) (x_L 749 (0, xi_bin xF_add 750, 0, 0))) (x_T 750 (x_L 750 (0, xi_sld 751, 0, 0)) (x_T 751 (x_L 751 (0, xi_load 0 2 752, 0, 0)) (x_L 752 (0, xi_load 3 0 753, 0, 0))))) (x_T 755 (x_T 753 (x_L 753 (0, xi_push (0, 4, 4) 754, 0, 0)) (x_T 754 (x_L 754 (0, xi_bin xF_add 755, 0, 0)) (x_L 755 (0, xi_sld 756, 0, 0)))) (x_T 756 (x_L 756 (0, xi_load 0 2 757, 0, 0)) (x_T 757 (x_L 757 (0, xi_load 3 0 758, 0, 0)) (x_L 758 (0, xi_push (0, 5, 5) 759, 0, 0)))))) (x_T 770 (x_T 761 (x_T 759 (x_L 759 (0, xi_bin xF_add 760, 0, 0)) (x_T 760 (x_L 760 (0, xi_sld 761, 0, 0)) (x_L 761 (2, x_nof, 123, 6)))) (x_T 764 (x_L 764 (0, xi_if2 0 2142 767, 0, 0)) (x_T 769 (x_L 769 (0, xi_load 1 2 770, 0, 0)) (x_L 770 (0, xi_load 0 2 771, 0, 0))))) (x_T 773 (x_T 771 (x_L 771 (0, xi_load 3 0 772, 0, 0)) (x_T 772 (x_L 772 (0, xi_push (0, 1, 1) 773, 0, 0)) (x_L 773 (0, xi_bin xF_add 774, 0, 0)))) (x_T 774 (x_L 774 (0, xi_sld 775, 0, 0)) (x_T 775 (x_L 775 (0, xi_load 0 2 776, 0, 0)) (x_L 776 (0, xi_load 3 0 777, 0, 0)))))))
set_option maxRecDepth 20000 in
set_option maxHeartbeats 4000000 in
theorem tb_0_432_ok (K : xKx) (hK : x_KP K) (hS : ∀ R s A H V sc, K R s A H V sc → x_Scr R s A H V sc) : ∀ pc, x_EOq cls K xI m_0 pc (tb_0_432 pc) :=
  (x_Tok2
  (x_Tok2
  (x_Tok2
  (x_Tok2
  (x_Lok (x_st (I := xI) (xr_iconst (n := 3) (z := 3) (v := 3) (x_dk dl_0_4_ok 32 rfl) (by decide) (by decide))))
  (x_Lok (x_st (I := xI) (xr_iadd (x_dk dl_0_4_ok 33 rfl)))))
  (x_Tok2
  (x_Lok (x_st (I := xI) (xr_sld hS (x_dk dl_0_4_ok 34 rfl))))
  (x_Tok2
  (x_Lok (x_st (I := xI) (xr_aload_n (i := 0) (x_dk dl_0_4_ok 35 rfl))))
  (x_Lok (x_st (I := xI) (xr_iload_n (i := 3) (x_dk dl_0_4_ok 36 rfl)))))))
  (x_Tok2
  (x_Tok2
  (x_Lok (x_st (I := xI) (xr_iconst (n := 4) (z := 4) (v := 4) (x_dk dl_0_4_ok 37 rfl) (by decide) (by decide))))
  (x_Tok2
  (x_Lok (x_st (I := xI) (xr_iadd (x_dk dl_0_4_ok 38 rfl))))
  (x_Lok (x_st (I := xI) (xr_sld hS (x_dk dl_0_4_ok 39 rfl))))))
  (x_Tok2
  (x_Lok (x_st (I := xI) (xr_aload_n (i := 0) (x_dk dl_0_4_ok 40 rfl))))
  (x_Tok2
  (x_Lok (x_st (I := xI) (xr_iload_n (i := 3) (x_dk dl_0_4_ok 41 rfl))))
  (x_Lok (x_st (I := xI) (xr_iconst (n := 5) (z := 5) (v := 5) (x_dk dl_0_4_ok 42 rfl) (by decide) (by decide))))))))
  (x_Tok2
  (x_Tok2
  (x_Tok2
  (x_Lok (x_st (I := xI) (xr_iadd (x_dk dl_0_4_ok 43 rfl))))
  (x_Tok2
  (x_Lok (x_st (I := xI) (xr_sld hS (x_dk dl_0_4_ok 44 rfl))))
  (x_Lok (x_ca (I := xI) (q' := m_123) rfl (xr_callV (q' := m_123) (ix := 61) (n := 5) (in_t11 (List.mem_of_getElem? (i := 70) rfl) rfl) good_w (in_t1 (List.mem_of_getElem? (i := 14) rfl) rfl) (in_t11 (List.mem_of_getElem? (i := 67) rfl) rfl) (in_t11 (List.mem_of_getElem? (i := 68) rfl) rfl) (in_t11 (List.mem_of_getElem? (i := 69) rfl) rfl) (by decide +kernel) (by decide +kernel) (by decide +kernel) (x_dk dl_0_4_ok 45 rfl))))))
  (x_Tok2
  (x_Lok (x_st (I := xI) (xr_icmpeq (off := 1378) (tg := 2142) (x_dk dl_0_4_ok 46 rfl) (by decide))))
  (x_Tok2
  (x_Lok (x_st (I := xI) (xr_aload_n (i := 1) (x_dk dl_0_4_ok 47 rfl))))
  (x_Lok (x_st (I := xI) (xr_aload_n (i := 0) (x_dk dl_0_4_ok 48 rfl)))))))
  (x_Tok2
  (x_Tok2
  (x_Lok (x_st (I := xI) (xr_iload_n (i := 3) (x_dk dl_0_4_ok 49 rfl))))
  (x_Tok2
  (x_Lok (x_st (I := xI) (xr_iconst (n := 1) (z := 1) (v := 1) (x_dk dl_0_4_ok 50 rfl) (by decide) (by decide))))
  (x_Lok (x_st (I := xI) (xr_iadd (x_dk dl_0_4_ok 51 rfl))))))
  (x_Tok2
  (x_Lok (x_st (I := xI) (xr_sld hS (x_dk dl_0_4_ok 52 rfl))))
  (x_Tok2
  (x_Lok (x_st (I := xI) (xr_aload_n (i := 0) (x_dk dl_0_4_ok 53 rfl))))
  (x_Lok (x_st (I := xI) (xr_iload_n (i := 3) (x_dk dl_0_4_ok 54 rfl)))))))))
def tb_0_455 : Nat → xE := (x_T 789 (x_T 783 (x_T 778 (x_T 777 (x_L 777 (0, xi_push (0, 2, 2) 778, 0, 0)) (x_L 778 (0, xi_bin xF_add 779, 0, 0))) (x_T 779 (x_L 779 (0, xi_sld 780, 0, 0)) (x_T 780 (x_L 780 (2, x_nof, 52, 3)) (x_L 783 (0, xi_load 2 2 784, 0, 0))))) (x_T 786 (x_T 784 (x_L 784 (0, xi_load 0 2 785, 0, 0)) (x_T 785 (x_L 785 (0, xi_load 3 0 786, 0, 0)) (x_L 786 (0, xi_push (0, 1, 1) 787, 0, 0)))) (x_T 787 (x_L 787 (0, xi_bin xF_add 788, 0, 0)) (x_T 788 (x_L 788 (0, xi_sld 789, 0, 0)) (x_L 789 (0, xi_load 0 2 790, 0, 0)))))) (x_T 794 (x_T 791 (x_T 790 (x_L 790 (0, xi_load 3 0 791, 0, 0)) (x_L 791 (0, xi_push (0, 2, 2) 792, 0, 0))) (x_T 792 (x_L 792 (0, xi_bin xF_add 793, 0, 0)) (x_T 793 (x_L 793 (0, xi_sld 794, 0, 0)) (x_L 794 (2, x_nof, 124, 3))))) (x_T 803 (x_T 797 (x_L 797 (0, xi_if2 0 2142 800, 0, 0)) (x_T 802 (x_L 802 (0, xi_load 1 2 803, 0, 0)) (x_L 803 (0, xi_load 0 2 804, 0, 0)))) (x_T 804 (x_L 804 (0, xi_load 3 0 805, 0, 0)) (x_T 805 (x_L 805 (0, xi_push (0, 1, 1) 806, 0, 0)) (x_L 806 (0, xi_bin xF_add 807, 0, 0)))))))
set_option maxRecDepth 20000 in
set_option maxHeartbeats 4000000 in
theorem tb_0_455_ok (K : xKx) (hK : x_KP K) (hS : ∀ R s A H V sc, K R s A H V sc → x_Scr R s A H V sc) : ∀ pc, x_EOq cls K xI m_0 pc (tb_0_455 pc) :=
  (x_Tok2
  (x_Tok2
  (x_Tok2
  (x_Tok2
  (x_Lok (x_st (I := xI) (xr_iconst (n := 2) (z := 2) (v := 2) (x_dk dl_0_4_ok 55 rfl) (by decide) (by decide))))
  (x_Lok (x_st (I := xI) (xr_iadd (x_dk dl_0_4_ok 56 rfl)))))
  (x_Tok2
  (x_Lok (x_st (I := xI) (xr_sld hS (x_dk dl_0_4_ok 57 rfl))))
  (x_Tok2
  (x_Lok (x_ca (I := xI) (q' := m_52) rfl (xr_callV (q' := m_52) (ix := 62) (n := 2) (in_t5 (List.mem_of_getElem? (i := 11) rfl) rfl) good_w (in_t1 (List.mem_of_getElem? (i := 1) rfl) rfl) (in_t5 (List.mem_of_getElem? (i := 8) rfl) rfl) (in_t5 (List.mem_of_getElem? (i := 9) rfl) rfl) (in_t5 (List.mem_of_getElem? (i := 10) rfl) rfl) (by decide +kernel) (by decide +kernel) (by decide +kernel) (x_dk dl_0_4_ok 58 rfl))))
  (x_Lok (x_st (I := xI) (xr_aload_n (i := 2) (x_dk dl_0_4_ok 59 rfl)))))))
  (x_Tok2
  (x_Tok2
  (x_Lok (x_st (I := xI) (xr_aload_n (i := 0) (x_dk dl_0_4_ok 60 rfl))))
  (x_Tok2
  (x_Lok (x_st (I := xI) (xr_iload_n (i := 3) (x_dk dl_0_4_ok 61 rfl))))
  (x_Lok (x_st (I := xI) (xr_iconst (n := 1) (z := 1) (v := 1) (x_dk dl_0_4_ok 62 rfl) (by decide) (by decide))))))
  (x_Tok2
  (x_Lok (x_st (I := xI) (xr_iadd (x_dk dl_0_4_ok 63 rfl))))
  (x_Tok2
  (x_Lok (x_st (I := xI) (xr_sld hS (x_dk dl_0_4_ok 64 rfl))))
  (x_Lok (x_st (I := xI) (xr_aload_n (i := 0) (x_dk dl_0_4_ok 65 rfl))))))))
  (x_Tok2
  (x_Tok2
  (x_Tok2
  (x_Lok (x_st (I := xI) (xr_iload_n (i := 3) (x_dk dl_0_4_ok 66 rfl))))
  (x_Lok (x_st (I := xI) (xr_iconst (n := 2) (z := 2) (v := 2) (x_dk dl_0_4_ok 67 rfl) (by decide) (by decide)))))
  (x_Tok2
  (x_Lok (x_st (I := xI) (xr_iadd (x_dk dl_0_4_ok 68 rfl))))
  (x_Tok2
  (x_Lok (x_st (I := xI) (xr_sld hS (x_dk dl_0_4_ok 69 rfl))))
  (x_Lok (x_ca (I := xI) (q' := m_124) rfl (xr_callV (q' := m_124) (ix := 66) (n := 2) (in_t11 (List.mem_of_getElem? (i := 75) rfl) rfl) good_w (in_t1 (List.mem_of_getElem? (i := 14) rfl) rfl) (in_t11 (List.mem_of_getElem? (i := 72) rfl) rfl) (in_t11 (List.mem_of_getElem? (i := 73) rfl) rfl) (in_t11 (List.mem_of_getElem? (i := 74) rfl) rfl) (by decide +kernel) (by decide +kernel) (by decide +kernel) (x_dk dl_0_4_ok 70 rfl)))))))
  (x_Tok2
  (x_Tok2
  (x_Lok (x_st (I := xI) (xr_icmpeq (off := 1345) (tg := 2142) (x_dk dl_0_4_ok 71 rfl) (by decide))))
  (x_Tok2
  (x_Lok (x_st (I := xI) (xr_aload_n (i := 1) (x_dk dl_0_4_ok 72 rfl))))
  (x_Lok (x_st (I := xI) (xr_aload_n (i := 0) (x_dk dl_0_4_ok 73 rfl))))))
  (x_Tok2
  (x_Lok (x_st (I := xI) (xr_iload_n (i := 3) (x_dk dl_0_4_ok 74 rfl))))
  (x_Tok2
  (x_Lok (x_st (I := xI) (xr_iconst (n := 1) (z := 1) (v := 1) (x_dk dl_0_4_ok 75 rfl) (by decide) (by decide))))
  (x_Lok (x_st (I := xI) (xr_iadd (x_dk dl_0_4_ok 76 rfl)))))))))
def tb_0_477 : Nat → xE := (x_T 817 (x_T 811 (x_T 808 (x_T 807 (x_L 807 (0, xi_sld 808, 0, 0)) (x_L 808 (0, xi_load 0 2 809, 0, 0))) (x_T 809 (x_L 809 (0, xi_load 3 0 810, 0, 0)) (x_T 810 (x_L 810 (0, xi_push (0, 2, 2) 811, 0, 0)) (x_L 811 (0, xi_bin xF_add 812, 0, 0))))) (x_T 814 (x_T 812 (x_L 812 (0, xi_sld 813, 0, 0)) (x_T 813 (x_L 813 (0, xi_load 0 2 814, 0, 0)) (x_L 814 (0, xi_load 3 0 815, 0, 0)))) (x_T 815 (x_L 815 (0, xi_push (0, 3, 3) 816, 0, 0)) (x_T 816 (x_L 816 (0, xi_bin xF_add 817, 0, 0)) (x_L 817 (0, xi_sld 818, 0, 0)))))) (x_T 823 (x_T 820 (x_T 818 (x_L 818 (0, xi_load 0 2 819, 0, 0)) (x_T 819 (x_L 819 (0, xi_load 3 0 820, 0, 0)) (x_L 820 (0, xi_push (0, 4, 4) 821, 0, 0)))) (x_T 821 (x_L 821 (0, xi_bin xF_add 822, 0, 0)) (x_T 822 (x_L 822 (0, xi_sld 823, 0, 0)) (x_L 823 (2, x_nof, 53, 5))))) (x_T 828 (x_T 826 (x_L 826 (0, xi_load 2 2 827, 0, 0)) (x_T 827 (x_L 827 (0, xi_load 0 2 828, 0, 0)) (x_L 828 (0, xi_load 3 0 829, 0, 0)))) (x_T 829 (x_L 829 (0, xi_push (0, 1, 1) 830, 0, 0)) (x_T 830 (x_L 830 (0, xi_bin xF_add 831, 0, 0)) (x_L 831 (0, xi_sld 832, 0, 0)))))))
set_option maxRecDepth 20000 in
set_option maxHeartbeats 4000000 in
theorem tb_0_477_ok (K : xKx) (hK : x_KP K) (hS : ∀ R s A H V sc, K R s A H V sc → x_Scr R s A H V sc) : ∀ pc, x_EOq cls K xI m_0 pc (tb_0_477 pc) :=
  (x_Tok2
  (x_Tok2
  (x_Tok2
  (x_Tok2
  (x_Lok (x_st (I := xI) (xr_sld hS (x_dk dl_0_4_ok 77 rfl))))
  (x_Lok (x_st (I := xI) (xr_aload_n (i := 0) (x_dk dl_0_4_ok 78 rfl)))))
  (x_Tok2
  (x_Lok (x_st (I := xI) (xr_iload_n (i := 3) (x_dk dl_0_4_ok 79 rfl))))
  (x_Tok2
  (x_Lok (x_st (I := xI) (xr_iconst (n := 2) (z := 2) (v := 2) (x_dk dl_0_4_ok 80 rfl) (by decide) (by decide))))
  (x_Lok (x_st (I := xI) (xr_iadd (x_dk dl_0_4_ok 81 rfl)))))))
  (x_Tok2
  (x_Tok2
  (x_Lok (x_st (I := xI) (xr_sld hS (x_dk dl_0_4_ok 82 rfl))))
  (x_Tok2
  (x_Lok (x_st (I := xI) (xr_aload_n (i := 0) (x_dk dl_0_4_ok 83 rfl))))
  (x_Lok (x_st (I := xI) (xr_iload_n (i := 3) (x_dk dl_0_4_ok 84 rfl))))))
  (x_Tok2
  (x_Lok (x_st (I := xI) (xr_iconst (n := 3) (z := 3) (v := 3) (x_dk dl_0_4_ok 85 rfl) (by decide) (by decide))))
  (x_Tok2
  (x_Lok (x_st (I := xI) (xr_iadd (x_dk dl_0_4_ok 86 rfl))))
  (x_Lok (x_st (I := xI) (xr_sld hS (x_dk dl_0_4_ok 87 rfl))))))))
  (x_Tok2
  (x_Tok2
  (x_Tok2
  (x_Lok (x_st (I := xI) (xr_aload_n (i := 0) (x_dk dl_0_4_ok 88 rfl))))
  (x_Tok2
  (x_Lok (x_st (I := xI) (xr_iload_n (i := 3) (x_dk dl_0_4_ok 89 rfl))))
  (x_Lok (x_st (I := xI) (xr_iconst (n := 4) (z := 4) (v := 4) (x_dk dl_0_4_ok 90 rfl) (by decide) (by decide))))))
  (x_Tok2
  (x_Lok (x_st (I := xI) (xr_iadd (x_dk dl_0_4_ok 91 rfl))))
  (x_Tok2
  (x_Lok (x_st (I := xI) (xr_sld hS (x_dk dl_0_4_ok 92 rfl))))
  (x_Lok (x_ca (I := xI) (q' := m_53) rfl (xr_callV (q' := m_53) (ix := 67) (n := 4) (in_t5 (List.mem_of_getElem? (i := 19) rfl) rfl) good_w (in_t1 (List.mem_of_getElem? (i := 1) rfl) rfl) (in_t5 (List.mem_of_getElem? (i := 16) rfl) rfl) (in_t5 (List.mem_of_getElem? (i := 17) rfl) rfl) (in_t5 (List.mem_of_getElem? (i := 18) rfl) rfl) (by decide +kernel) (by decide +kernel) (by decide +kernel) (x_dk dl_0_4_ok 93 rfl)))))))
  (x_Tok2
  (x_Tok2
  (x_Lok (x_st (I := xI) (xr_aload_n (i := 2) (x_dk dl_0_4_ok 94 rfl))))
  (x_Tok2
  (x_Lok (x_st (I := xI) (xr_aload_n (i := 0) (x_dk dl_0_4_ok 95 rfl))))
  (x_Lok (x_st (I := xI) (xr_iload_n (i := 3) (x_dk dl_0_4_ok 96 rfl))))))
  (x_Tok2
  (x_Lok (x_st (I := xI) (xr_iconst (n := 1) (z := 1) (v := 1) (x_dk dl_0_4_ok 97 rfl) (by decide) (by decide))))
  (x_Tok2
  (x_Lok (x_st (I := xI) (xr_iadd (x_dk dl_0_4_ok 98 rfl))))
  (x_Lok (x_st (I := xI) (xr_sld hS (x_dk dl_0_4_ok 99 rfl)))))))))
def tb_0_500 : Nat → xE := (x_T 842 (x_T 836 (x_T 833 (x_T 832 (x_L 832 (0, xi_load 0 2 833, 0, 0)) (x_L 833 (0, xi_load 3 0 834, 0, 0))) (x_T 834 (x_L 834 (0, xi_push (0, 2, 2) 835, 0, 0)) (x_T 835 (x_L 835 (0, xi_bin xF_add 836, 0, 0)) (x_L 836 (0, xi_sld 837, 0, 0))))) (x_T 839 (x_T 837 (x_L 837 (0, xi_load 0 2 838, 0, 0)) (x_T 838 (x_L 838 (0, xi_load 3 0 839, 0, 0)) (x_L 839 (0, xi_push (0, 3, 3) 840, 0, 0)))) (x_T 840 (x_L 840 (0, xi_bin xF_add 841, 0, 0)) (x_T 841 (x_L 841 (0, xi_sld 842, 0, 0)) (x_L 842 (0, xi_load 0 2 843, 0, 0)))))) (x_T 850 (x_T 845 (x_T 843 (x_L 843 (0, xi_load 3 0 844, 0, 0)) (x_T 844 (x_L 844 (0, xi_push (0, 4, 4) 845, 0, 0)) (x_L 845 (0, xi_bin xF_add 846, 0, 0)))) (x_T 846 (x_L 846 (0, xi_sld 847, 0, 0)) (x_T 847 (x_L 847 (2, x_nof, 125, 5)) (x_L 850 (0, xi_if2 0 2142 853, 0, 0))))) (x_T 857 (x_T 855 (x_L 855 (0, xi_load 1 2 856, 0, 0)) (x_T 856 (x_L 856 (0, xi_load 0 2 857, 0, 0)) (x_L 857 (0, xi_load 3 0 858, 0, 0)))) (x_T 858 (x_L 858 (0, xi_push (0, 1, 1) 859, 0, 0)) (x_T 859 (x_L 859 (0, xi_bin xF_add 860, 0, 0)) (x_L 860 (0, xi_sld 861, 0, 0)))))))
set_option maxRecDepth 20000 in
set_option maxHeartbeats 4000000 in
theorem tb_0_500_ok (K : xKx) (hK : x_KP K) (hS : ∀ R s A H V sc, K R s A H V sc → x_Scr R s A H V sc) : ∀ pc, x_EOq cls K xI m_0 pc (tb_0_500 pc) :=
  (x_Tok2
  (x_Tok2
  (x_Tok2
  (x_Tok2
  (x_Lok (x_st (I := xI) (xr_aload_n (i := 0) (x_dk dl_0_5_ok 0 rfl))))
  (x_Lok (x_st (I := xI) (xr_iload_n (i := 3) (x_dk dl_0_5_ok 1 rfl)))))
  (x_Tok2
  (x_Lok (x_st (I := xI) (xr_iconst (n := 2) (z := 2) (v := 2) (x_dk dl_0_5_ok 2 rfl) (by decide) (by decide))))
  (x_Tok2
  (x_Lok (x_st (I := xI) (xr_iadd (x_dk dl_0_5_ok 3 rfl))))
  (x_Lok (x_st (I := xI) (xr_sld hS (x_dk dl_0_5_ok 4 rfl)))))))
  (x_Tok2
  (x_Tok2
  (x_Lok (x_st (I := xI) (xr_aload_n (i := 0) (x_dk dl_0_5_ok 5 rfl))))
  (x_Tok2
  (x_Lok (x_st (I := xI) (xr_iload_n (i := 3) (x_dk dl_0_5_ok 6 rfl))))
  (x_Lok (x_st (I := xI) (xr_iconst (n := 3) (z := 3) (v := 3) (x_dk dl_0_5_ok 7 rfl) (by decide) (by decide))))))
  (x_Tok2
  (x_Lok (x_st (I := xI) (xr_iadd (x_dk dl_0_5_ok 8 rfl))))
  (x_Tok2
  (x_Lok (x_st (I := xI) (xr_sld hS (x_dk dl_0_5_ok 9 rfl))))
  (x_Lok (x_st (I := xI) (xr_aload_n (i := 0) (x_dk dl_0_5_ok 10 rfl))))))))
  (x_Tok2
  (x_Tok2
  (x_Tok2
  (x_Lok (x_st (I := xI) (xr_iload_n (i := 3) (x_dk dl_0_5_ok 11 rfl))))
  (x_Tok2
  (x_Lok (x_st (I := xI) (xr_iconst (n := 4) (z := 4) (v := 4) (x_dk dl_0_5_ok 12 rfl) (by decide) (by decide))))
  (x_Lok (x_st (I := xI) (xr_iadd (x_dk dl_0_5_ok 13 rfl))))))
  (x_Tok2
  (x_Lok (x_st (I := xI) (xr_sld hS (x_dk dl_0_5_ok 14 rfl))))
  (x_Tok2
  (x_Lok (x_ca (I := xI) (q' := m_125) rfl (xr_callV (q' := m_125) (ix := 70) (n := 4) (in_t11 (List.mem_of_getElem? (i := 80) rfl) rfl) good_w (in_t1 (List.mem_of_getElem? (i := 14) rfl) rfl) (in_t11 (List.mem_of_getElem? (i := 77) rfl) rfl) (in_t11 (List.mem_of_getElem? (i := 78) rfl) rfl) (in_t11 (List.mem_of_getElem? (i := 79) rfl) rfl) (by decide +kernel) (by decide +kernel) (by decide +kernel) (x_dk dl_0_5_ok 15 rfl))))
  (x_Lok (x_st (I := xI) (xr_icmpeq (off := 1292) (tg := 2142) (x_dk dl_0_5_ok 16 rfl) (by decide)))))))
  (x_Tok2
  (x_Tok2
  (x_Lok (x_st (I := xI) (xr_aload_n (i := 1) (x_dk dl_0_5_ok 17 rfl))))
  (x_Tok2
  (x_Lok (x_st (I := xI) (xr_aload_n (i := 0) (x_dk dl_0_5_ok 18 rfl))))
  (x_Lok (x_st (I := xI) (xr_iload_n (i := 3) (x_dk dl_0_5_ok 19 rfl))))))
  (x_Tok2
  (x_Lok (x_st (I := xI) (xr_iconst (n := 1) (z := 1) (v := 1) (x_dk dl_0_5_ok 20 rfl) (by decide) (by decide))))
  (x_Tok2
  (x_Lok (x_st (I := xI) (xr_iadd (x_dk dl_0_5_ok 21 rfl))))
  (x_Lok (x_st (I := xI) (xr_sld hS (x_dk dl_0_5_ok 22 rfl)))))))))
def tb_0_523 : Nat → xE := (x_T 871 (x_T 865 (x_T 862 (x_T 861 (x_L 861 (0, xi_load 0 2 862, 0, 0)) (x_L 862 (0, xi_load 3 0 863, 0, 0))) (x_T 863 (x_L 863 (0, xi_push (0, 2, 2) 864, 0, 0)) (x_T 864 (x_L 864 (0, xi_bin xF_add 865, 0, 0)) (x_L 865 (0, xi_sld 866, 0, 0))))) (x_T 868 (x_T 866 (x_L 866 (0, xi_load 0 2 867, 0, 0)) (x_T 867 (x_L 867 (0, xi_load 3 0 868, 0, 0)) (x_L 868 (0, xi_push (0, 3, 3) 869, 0, 0)))) (x_T 869 (x_L 869 (0, xi_bin xF_add 870, 0, 0)) (x_T 870 (x_L 870 (0, xi_sld 871, 0, 0)) (x_L 871 (2, x_nof, 54, 4)))))) (x_T 879 (x_T 876 (x_T 874 (x_L 874 (0, xi_load 2 2 875, 0, 0)) (x_T 875 (x_L 875 (0, xi_load 0 2 876, 0, 0)) (x_L 876 (0, xi_load 3 0 877, 0, 0)))) (x_T 877 (x_L 877 (0, xi_push (0, 1, 1) 878, 0, 0)) (x_T 878 (x_L 878 (0, xi_bin xF_add 879, 0, 0)) (x_L 879 (0, xi_sld 880, 0, 0))))) (x_T 882 (x_T 880 (x_L 880 (0, xi_load 0 2 881, 0, 0)) (x_T 881 (x_L 881 (0, xi_load 3 0 882, 0, 0)) (x_L 882 (0, xi_push (0, 2, 2) 883, 0, 0)))) (x_T 883 (x_L 883 (0, xi_bin xF_add 884, 0, 0)) (x_T 884 (x_L 884 (0, xi_sld 885, 0, 0)) (x_L 885 (0, xi_load 0 2 886, 0, 0)))))))
set_option maxRecDepth 20000 in
set_option maxHeartbeats 4000000 in
theorem tb_0_523_ok (K : xKx) (hK : x_KP K) (hS : ∀ R s A H V sc, K R s A H V sc → x_Scr R s A H V sc) : ∀ pc, x_EOq cls K xI m_0 pc (tb_0_523 pc) :=
  (x_Tok2
  (x_Tok2
  (x_Tok2
  (x_Tok2
  (x_Lok (x_st (I := xI) (xr_aload_n (i := 0) (x_dk dl_0_5_ok 23 rfl))))
  (x_Lok (x_st (I := xI) (xr_iload_n (i := 3) (x_dk dl_0_5_ok 24 rfl)))))
  (x_Tok2
  (x_Lok (x_st (I := xI) (xr_iconst (n := 2) (z := 2) (v := 2) (x_dk dl_0_5_ok 25 rfl) (by decide) (by decide))))
  (x_Tok2
  (x_Lok (x_st (I := xI) (xr_iadd (x_dk dl_0_5_ok 26 rfl))))
  (x_Lok (x_st (I := xI) (xr_sld hS (x_dk dl_0_5_ok 27 rfl)))))))
  (x_Tok2
  (x_Tok2
  (x_Lok (x_st (I := xI) (xr_aload_n (i := 0) (x_dk dl_0_5_ok 28 rfl))))
  (x_Tok2
  (x_Lok (x_st (I := xI) (xr_iload_n (i := 3) (x_dk dl_0_5_ok 29 rfl))))
  (x_Lok (x_st (I := xI) (xr_iconst (n := 3) (z := 3) (v := 3) (x_dk dl_0_5_ok 30 rfl) (by decide) (by decide))))))
  (x_Tok2
  (x_Lok (x_st (I := xI) (xr_iadd (x_dk dl_0_5_ok 31 rfl))))
  (x_Tok2
  (x_Lok (x_st (I := xI) (xr_sld hS (x_dk dl_0_5_ok 32 rfl))))
  (x_Lok (x_ca (I := xI) (q' := m_54) rfl (xr_callV (q' := m_54) (ix := 71) (n := 3) (in_t5 (List.mem_of_getElem? (i := 26) rfl) rfl) good_w (in_t1 (List.mem_of_getElem? (i := 1) rfl) rfl) (in_t5 (List.mem_of_getElem? (i := 23) rfl) rfl) (in_t5 (List.mem_of_getElem? (i := 24) rfl) rfl) (in_t5 (List.mem_of_getElem? (i := 25) rfl) rfl) (by decide +kernel) (by decide +kernel) (by decide +kernel) (x_dk dl_0_5_ok 33 rfl))))))))
  (x_Tok2
  (x_Tok2
  (x_Tok2
  (x_Lok (x_st (I := xI) (xr_aload_n (i := 2) (x_dk dl_0_5_ok 34 rfl))))
  (x_Tok2
  (x_Lok (x_st (I := xI) (xr_aload_n (i := 0) (x_dk dl_0_5_ok 35 rfl))))
  (x_Lok (x_st (I := xI) (xr_iload_n (i := 3) (x_dk dl_0_5_ok 36 rfl))))))
  (x_Tok2
  (x_Lok (x_st (I := xI) (xr_iconst (n := 1) (z := 1) (v := 1) (x_dk dl_0_5_ok 37 rfl) (by decide) (by decide))))
  (x_Tok2
  (x_Lok (x_st (I := xI) (xr_iadd (x_dk dl_0_5_ok 38 rfl))))
  (x_Lok (x_st (I := xI) (xr_sld hS (x_dk dl_0_5_ok 39 rfl)))))))
  (x_Tok2
  (x_Tok2
  (x_Lok (x_st (I := xI) (xr_aload_n (i := 0) (x_dk dl_0_5_ok 40 rfl))))
  (x_Tok2
  (x_Lok (x_st (I := xI) (xr_iload_n (i := 3) (x_dk dl_0_5_ok 41 rfl))))
  (x_Lok (x_st (I := xI) (xr_iconst (n := 2) (z := 2) (v := 2) (x_dk dl_0_5_ok 42 rfl) (by decide) (by decide))))))
  (x_Tok2
  (x_Lok (x_st (I := xI) (xr_iadd (x_dk dl_0_5_ok 43 rfl))))
  (x_Tok2
  (x_Lok (x_st (I := xI) (xr_sld hS (x_dk dl_0_5_ok 44 rfl))))
  (x_Lok (x_st (I := xI) (xr_aload_n (i := 0) (x_dk dl_0_5_ok 45 rfl)))))))))
def tb_0_546 : Nat → xE := (x_T 902 (x_T 890 (x_T 887 (x_T 886 (x_L 886 (0, xi_load 3 0 887, 0, 0)) (x_L 887 (0, xi_push (0, 3, 3) 888, 0, 0))) (x_T 888 (x_L 888 (0, xi_bin xF_add 889, 0, 0)) (x_T 889 (x_L 889 (0, xi_sld 890, 0, 0)) (x_L 890 (2, x_nof, 126, 4))))) (x_T 899 (x_T 893 (x_L 893 (0, xi_if2 0 2142 896, 0, 0)) (x_T 898 (x_L 898 (0, xi_load 1 2 899, 0, 0)) (x_L 899 (0, xi_load 0 2 900, 0, 0)))) (x_T 900 (x_L 900 (0, xi_load 3 0 901, 0, 0)) (x_T 901 (x_L 901 (0, xi_push (0, 1, 1) 902, 0, 0)) (x_L 902 (0, xi_bin xF_add 903, 0, 0)))))) (x_T 907 (x_T 904 (x_T 903 (x_L 903 (0, xi_sld 904, 0, 0)) (x_L 904 (0, xi_load 0 2 905, 0, 0))) (x_T 905 (x_L 905 (0, xi_load 3 0 906, 0, 0)) (x_T 906 (x_L 906 (0, xi_push (0, 2, 2) 907, 0, 0)) (x_L 907 (0, xi_bin xF_add 908, 0, 0))))) (x_T 910 (x_T 908 (x_L 908 (0, xi_sld 909, 0, 0)) (x_T 909 (x_L 909 (0, xi_load 0 2 910, 0, 0)) (x_L 910 (0, xi_load 3 0 911, 0, 0)))) (x_T 911 (x_L 911 (0, xi_push (0, 3, 3) 912, 0, 0)) (x_T 912 (x_L 912 (0, xi_bin xF_add 913, 0, 0)) (x_L 913 (0, xi_sld 914, 0, 0)))))))
set_option maxRecDepth 20000 in
set_option maxHeartbeats 4000000 in
theorem tb_0_546_ok (K : xKx) (hK : x_KP K) (hS : ∀ R s A H V sc, K R s A H V sc → x_Scr R s A H V sc) : ∀ pc, x_EOq cls K xI m_0 pc (tb_0_546 pc) :=
  (x_Tok2
  (x_Tok2
  (x_Tok2
  (x_Tok2
  (x_Lok (x_st (I := xI) (xr_iload_n (i := 3) (x_dk dl_0_5_ok 46 rfl))))
  (x_Lok (x_st (I := xI) (xr_iconst (n := 3) (z := 3) (v := 3) (x_dk dl_0_5_ok 47 rfl) (by decide) (by decide)))))
  (x_Tok2
  (x_Lok (x_st (I := xI) (xr_iadd (x_dk dl_0_5_ok 48 rfl))))
  (x_Tok2
  (x_Lok (x_st (I := xI) (xr_sld hS (x_dk dl_0_5_ok 49 rfl))))
  (x_Lok (x_ca (I := xI) (q' := m_126) rfl (xr_callV (q' := m_126) (ix := 74) (n := 3) (in_t11 (List.mem_of_getElem? (i := 85) rfl) rfl) good_w (in_t1 (List.mem_of_getElem? (i := 14) rfl) rfl) (in_t11 (List.mem_of_getElem? (i := 82) rfl) rfl) (in_t11 (List.mem_of_getElem? (i := 83) rfl) rfl) (in_t11 (List.mem_of_getElem? (i := 84) rfl) rfl) (by decide +kernel) (by decide +kernel) (by decide +kernel) (x_dk dl_0_5_ok 50 rfl)))))))
  (x_Tok2
  (x_Tok2
  (x_Lok (x_st (I := xI) (xr_icmpeq (off := 1249) (tg := 2142) (x_dk dl_0_5_ok 51 rfl) (by decide))))
  (x_Tok2
  (x_Lok (x_st (I := xI) (xr_aload_n (i := 1) (x_dk dl_0_5_ok 52 rfl))))
  (x_Lok (x_st (I := xI) (xr_aload_n (i := 0) (x_dk dl_0_5_ok 53 rfl))))))
  (x_Tok2
  (x_Lok (x_st (I := xI) (xr_iload_n (i := 3) (x_dk dl_0_5_ok 54 rfl))))
  (x_Tok2
  (x_Lok (x_st (I := xI) (xr_iconst (n := 1) (z := 1) (v := 1) (x_dk dl_0_5_ok 55 rfl) (by decide) (by decide))))
  (x_Lok (x_st (I := xI) (xr_iadd (x_dk dl_0_5_ok 56 rfl))))))))
  (x_Tok2
  (x_Tok2
  (x_Tok2
  (x_Lok (x_st (I := xI) (xr_sld hS (x_dk dl_0_5_ok 57 rfl))))
  (x_Lok (x_st (I := xI) (xr_aload_n (i := 0) (x_dk dl_0_5_ok 58 rfl)))))
  (x_Tok2
  (x_Lok (x_st (I := xI) (xr_iload_n (i := 3) (x_dk dl_0_5_ok 59 rfl))))
  (x_Tok2
  (x_Lok (x_st (I := xI) (xr_iconst (n := 2) (z := 2) (v := 2) (x_dk dl_0_5_ok 60 rfl) (by decide) (by decide))))
  (x_Lok (x_st (I := xI) (xr_iadd (x_dk dl_0_5_ok 61 rfl)))))))
  (x_Tok2
  (x_Tok2
  (x_Lok (x_st (I := xI) (xr_sld hS (x_dk dl_0_5_ok 62 rfl))))
  (x_Tok2
  (x_Lok (x_st (I := xI) (xr_aload_n (i := 0) (x_dk dl_0_5_ok 63 rfl))))
  (x_Lok (x_st (I := xI) (xr_iload_n (i := 3) (x_dk dl_0_5_ok 64 rfl))))))
  (x_Tok2
  (x_Lok (x_st (I := xI) (xr_iconst (n := 3) (z := 3) (v := 3) (x_dk dl_0_5_ok 65 rfl) (by decide) (by decide))))
  (x_Tok2
  (x_Lok (x_st (I := xI) (xr_iadd (x_dk dl_0_5_ok 66 rfl))))
  (x_Lok (x_st (I := xI) (xr_sld hS (x_dk dl_0_5_ok 67 rfl)))))))))
def tb_0_568 : Nat → xE := (x_T 926 (x_T 920 (x_T 917 (x_T 914 (x_L 914 (2, x_nof, 55, 4)) (x_L 917 (0, xi_load 2 2 918, 0, 0))) (x_T 918 (x_L 918 (0, xi_load 0 2 919, 0, 0)) (x_T 919 (x_L 919 (0, xi_load 3 0 920, 0, 0)) (x_L 920 (0, xi_push (0, 1, 1) 921, 0, 0))))) (x_T 923 (x_T 921 (x_L 921 (0, xi_bin xF_add 922, 0, 0)) (x_T 922 (x_L 922 (0, xi_sld 923, 0, 0)) (x_L 923 (0, xi_load 0 2 924, 0, 0)))) (x_T 924 (x_L 924 (0, xi_load 3 0 925, 0, 0)) (x_T 925 (x_L 925 (0, xi_push (0, 2, 2) 926, 0, 0)) (x_L 926 (0, xi_bin xF_add 927, 0, 0)))))) (x_T 932 (x_T 929 (x_T 927 (x_L 927 (0, xi_sld 928, 0, 0)) (x_T 928 (x_L 928 (0, xi_load 0 2 929, 0, 0)) (x_L 929 (0, xi_load 3 0 930, 0, 0)))) (x_T 930 (x_L 930 (0, xi_push (0, 3, 3) 931, 0, 0)) (x_T 931 (x_L 931 (0, xi_bin xF_add 932, 0, 0)) (x_L 932 (0, xi_sld 933, 0, 0))))) (x_T 941 (x_T 933 (x_L 933 (2, x_nof, 127, 4)) (x_T 936 (x_L 936 (0, xi_if2 0 2142 939, 0, 0)) (x_L 941 (0, xi_load 1 2 942, 0, 0)))) (x_T 942 (x_L 942 (0, xi_load 0 2 943, 0, 0)) (x_T 943 (x_L 943 (0, xi_load 3 0 944, 0, 0)) (x_L 944 (0, xi_push (0, 1, 1) 945, 0, 0)))))))
set_option maxRecDepth 20000 in
set_option maxHeartbeats 4000000 in
theorem tb_0_568_ok (K : xKx) (hK : x_KP K) (hS : ∀ R s A H V sc, K R s A H V sc → x_Scr R s A H V sc) : ∀ pc, x_EOq cls K xI m_0 pc (tb_0_568 pc) :=
  (x_Tok2
  (x_Tok2
  (x_Tok2
  (x_Tok2
  (x_Lok (x_ca (I := xI) (q' := m_55) rfl (xr_callV (q' := m_55) (ix := 75) (n := 3) (in_t5 (List.mem_of_getElem? (i := 34) rfl) rfl) good_w (in_t1 (List.mem_of_getElem? (i := 1) rfl) rfl) (in_t5 (List.mem_of_getElem? (i := 31) rfl) rfl) (in_t5 (List.mem_of_getElem? (i := 32) rfl) rfl) (in_t5 (List.mem_of_getElem? (i := 33) rfl) rfl) (by decide +kernel) (by decide +kernel) (by decide +kernel) (x_dk dl_0_5_ok 68 rfl))))
  (x_Lok (x_st (I := xI) (xr_aload_n (i := 2) (x_dk dl_0_5_ok 69 rfl)))))
  (x_Tok2
  (x_Lok (x_st (I := xI) (xr_aload_n (i := 0) (x_dk dl_0_5_ok 70 rfl))))
  (x_Tok2
  (x_Lok (x_st (I := xI) (xr_iload_n (i := 3) (x_dk dl_0_5_ok 71 rfl))))
  (x_Lok (x_st (I := xI) (xr_iconst (n := 1) (z := 1) (v := 1) (x_dk dl_0_5_ok 72 rfl) (by decide) (by decide)))))))
  (x_Tok2
  (x_Tok2
  (x_Lok (x_st (I := xI) (xr_iadd (x_dk dl_0_5_ok 73 rfl))))
  (x_Tok2
  (x_Lok (x_st (I := xI) (xr_sld hS (x_dk dl_0_5_ok 74 rfl))))
  (x_Lok (x_st (I := xI) (xr_aload_n (i := 0) (x_dk dl_0_5_ok 75 rfl))))))
  (x_Tok2
  (x_Lok (x_st (I := xI) (xr_iload_n (i := 3) (x_dk dl_0_5_ok 76 rfl))))
  (x_Tok2
  (x_Lok (x_st (I := xI) (xr_iconst (n := 2) (z := 2) (v := 2) (x_dk dl_0_5_ok 77 rfl) (by decide) (by decide))))
  (x_Lok (x_st (I := xI) (xr_iadd (x_dk dl_0_5_ok 78 rfl))))))))
  (x_Tok2
  (x_Tok2
  (x_Tok2
  (x_Lok (x_st (I := xI) (xr_sld hS (x_dk dl_0_5_ok 79 rfl))))
  (x_Tok2
  (x_Lok (x_st (I := xI) (xr_aload_n (i := 0) (x_dk dl_0_5_ok 80 rfl))))
  (x_Lok (x_st (I := xI) (xr_iload_n (i := 3) (x_dk dl_0_5_ok 81 rfl))))))
  (x_Tok2
  (x_Lok (x_st (I := xI) (xr_iconst (n := 3) (z := 3) (v := 3) (x_dk dl_0_5_ok 82 rfl) (by decide) (by decide))))
  (x_Tok2
  (x_Lok (x_st (I := xI) (xr_iadd (x_dk dl_0_5_ok 83 rfl))))
  (x_Lok (x_st (I := xI) (xr_sld hS (x_dk dl_0_5_ok 84 rfl)))))))
  (x_Tok2
  (x_Tok2
  (x_Lok (x_ca (I := xI) (q' := m_127) rfl (xr_callV (q' := m_127) (ix := 78) (n := 3) (in_t11 (List.mem_of_getElem? (i := 96) rfl) rfl) good_w (in_t1 (List.mem_of_getElem? (i := 14) rfl) rfl) (in_t11 (List.mem_of_getElem? (i := 93) rfl) rfl) (in_t11 (List.mem_of_getElem? (i := 94) rfl) rfl) (in_t11 (List.mem_of_getElem? (i := 95) rfl) rfl) (by decide +kernel) (by decide +kernel) (by decide +kernel) (x_dk dl_0_5_ok 85 rfl))))
  (x_Tok2
  (x_Lok (x_st (I := xI) (xr_icmpeq (off := 1206) (tg := 2142) (x_dk dl_0_5_ok 86 rfl) (by decide))))
  (x_Lok (x_st (I := xI) (xr_aload_n (i := 1) (x_dk dl_0_5_ok 87 rfl))))))
  (x_Tok2
  (x_Lok (x_st (I := xI) (xr_aload_n (i := 0) (x_dk dl_0_5_ok 88 rfl))))
  (x_Tok2
  (x_Lok (x_st (I := xI) (xr_iload_n (i := 3) (x_dk dl_0_5_ok 89 rfl))))
  (x_Lok (x_st (I := xI) (xr_iconst (n := 1) (z := 1) (v := 1) (x_dk dl_0_5_ok 90 rfl) (by decide) (by decide)))))))))
def tb_0_591 : Nat → xE := (x_T 955 (x_T 949 (x_T 946 (x_T 945 (x_L 945 (0, xi_bin xF_add 946, 0, 0)) (x_L 946 (0, xi_sld 947, 0, 0))) (x_T 947 (x_L 947 (0, xi_load 0 2 948, 0, 0)) (x_T 948 (x_L 948 (0, xi_load 3 0 949, 0, 0)) (x_L 949 (0, xi_push (0, 2, 2) 950, 0, 0))))) (x_T 952 (x_T 950 (x_L 950 (0, xi_bin xF_add 951, 0, 0)) (x_T 951 (x_L 951 (0, xi_sld 952, 0, 0)) (x_L 952 (0, xi_load 0 2 953, 0, 0)))) (x_T 953 (x_L 953 (0, xi_load 3 0 954, 0, 0)) (x_T 954 (x_L 954 (0, xi_push (0, 3, 3) 955, 0, 0)) (x_L 955 (0, xi_bin xF_add 956, 0, 0)))))) (x_T 961 (x_T 958 (x_T 956 (x_L 956 (0, xi_sld 957, 0, 0)) (x_T 957 (x_L 957 (0, xi_load 0 2 958, 0, 0)) (x_L 958 (0, xi_load 3 0 959, 0, 0)))) (x_T 959 (x_L 959 (0, xi_push (0, 4, 4) 960, 0, 0)) (x_T 960 (x_L 960 (0, xi_bin xF_add 961, 0, 0)) (x_L 961 (0, xi_sld 962, 0, 0))))) (x_T 964 (x_T 962 (x_L 962 (0, xi_load 0 2 963, 0, 0)) (x_T 963 (x_L 963 (0, xi_load 3 0 964, 0, 0)) (x_L 964 (0, xi_push (0, 5, 5) 965, 0, 0)))) (x_T 965 (x_L 965 (0, xi_bin xF_add 966, 0, 0)) (x_T 966 (x_L 966 (0, xi_sld 967, 0, 0)) (x_L 967 (2, x_nof, 56, 6)))))))
set_option maxRecDepth 20000 in
set_option maxHeartbeats 4000000 in
theorem tb_0_591_ok (K : xKx) (hK : x_KP K) (hS : ∀ R s A H V sc, K R s A H V sc → x_Scr R s A H V sc) : ∀ pc, x_EOq cls K xI m_0 pc (tb_0_591 pc) :=
  (x_Tok2
  (x_Tok2
  (x_Tok2
  (x_Tok2
  (x_Lok (x_st (I := xI) (xr_iadd (x_dk dl_0_5_ok 91 rfl))))
  (x_Lok (x_st (I := xI) (xr_sld hS (x_dk dl_0_5_ok 92 rfl)))))
  (x_Tok2
  (x_Lok (x_st (I := xI) (xr_aload_n (i := 0) (x_dk dl_0_5_ok 93 rfl))))
  (x_Tok2
  (x_Lok (x_st (I := xI) (xr_iload_n (i := 3) (x_dk dl_0_5_ok 94 rfl))))
  (x_Lok (x_st (I := xI) (xr_iconst (n := 2) (z := 2) (v := 2) (x_dk dl_0_5_ok 95 rfl) (by decide) (by decide)))))))
  (x_Tok2
  (x_Tok2
  (x_Lok (x_st (I := xI) (xr_iadd (x_dk dl_0_5_ok 96 rfl))))
  (x_Tok2
  (x_Lok (x_st (I := xI) (xr_sld hS (x_dk dl_0_5_ok 97 rfl))))
  (x_Lok (x_st (I := xI) (xr_aload_n (i := 0) (x_dk dl_0_5_ok 98 rfl))))))
  (x_Tok2
  (x_Lok (x_st (I := xI) (xr_iload_n (i := 3) (x_dk dl_0_5_ok 99 rfl))))
  (x_Tok2
  (x_Lok (x_st (I := xI) (xr_iconst (n := 3) (z := 3) (v := 3) (x_dk dl_0_6_ok 0 rfl) (by decide) (by decide))))
  (x_Lok (x_st (I := xI) (xr_iadd (x_dk dl_0_6_ok 1 rfl))))))))
  (x_Tok2
  (x_Tok2
  (x_Tok2
  (x_Lok (x_st (I := xI) (xr_sld hS (x_dk dl_0_6_ok 2 rfl))))
  (x_Tok2
  (x_Lok (x_st (I := xI) (xr_aload_n (i := 0) (x_dk dl_0_6_ok 3 rfl))))
  (x_Lok (x_st (I := xI) (xr_iload_n (i := 3) (x_dk dl_0_6_ok 4 rfl))))))
  (x_Tok2
  (x_Lok (x_st (I := xI) (xr_iconst (n := 4) (z := 4) (v := 4) (x_dk dl_0_6_ok 5 rfl) (by decide) (by decide))))
  (x_Tok2
  (x_Lok (x_st (I := xI) (xr_iadd (x_dk dl_0_6_ok 6 rfl))))
  (x_Lok (x_st (I := xI) (xr_sld hS (x_dk dl_0_6_ok 7 rfl)))))))
  (x_Tok2
  (x_Tok2
  (x_Lok (x_st (I := xI) (xr_aload_n (i := 0) (x_dk dl_0_6_ok 8 rfl))))
  (x_Tok2
  (x_Lok (x_st (I := xI) (xr_iload_n (i := 3) (x_dk dl_0_6_ok 9 rfl))))
  (x_Lok (x_st (I := xI) (xr_iconst (n := 5) (z := 5) (v := 5) (x_dk dl_0_6_ok 10 rfl) (by decide) (by decide))))))
  (x_Tok2
  (x_Lok (x_st (I := xI) (xr_iadd (x_dk dl_0_6_ok 11 rfl))))
  (x_Tok2
  (x_Lok (x_st (I := xI) (xr_sld hS (x_dk dl_0_6_ok 12 rfl))))
  (x_Lok (x_ca (I := xI) (q' := m_56) rfl (xr_callV (q' := m_56) (ix := 79) (n := 5) (in_t5 (List.mem_of_getElem? (i := 38) rfl) rfl) good_w (in_t1 (List.mem_of_getElem? (i := 1) rfl) rfl) (in_t5 (List.mem_of_getElem? (i := 35) rfl) rfl) (in_t5 (List.mem_of_getElem? (i := 36) rfl) rfl) (in_t5 (List.mem_of_getElem? (i := 37) rfl) rfl) (by decide +kernel) (by decide +kernel) (by decide +kernel) (x_dk dl_0_6_ok 13 rfl)))))))))
def tb_0_614 : Nat → xE := (x_T 980 (x_T 974 (x_T 971 (x_T 970 (x_L 970 (0, xi_load 2 2 971, 0, 0)) (x_L 971 (0, xi_load 0 2 972, 0, 0))) (x_T 972 (x_L 972 (0, xi_load 3 0 973, 0, 0)) (x_T 973 (x_L 973 (0, xi_push (0, 1, 1) 974, 0, 0)) (x_L 974 (0, xi_bin xF_add 975, 0, 0))))) (x_T 977 (x_T 975 (x_L 975 (0, xi_sld 976, 0, 0)) (x_T 976 (x_L 976 (0, xi_load 0 2 977, 0, 0)) (x_L 977 (0, xi_load 3 0 978, 0, 0)))) (x_T 978 (x_L 978 (0, xi_push (0, 2, 2) 979, 0, 0)) (x_T 979 (x_L 979 (0, xi_bin xF_add 980, 0, 0)) (x_L 980 (0, xi_sld 981, 0, 0)))))) (x_T 986 (x_T 983 (x_T 981 (x_L 981 (0, xi_load 0 2 982, 0, 0)) (x_T 982 (x_L 982 (0, xi_load 3 0 983, 0, 0)) (x_L 983 (0, xi_push (0, 3, 3) 984, 0, 0)))) (x_T 984 (x_L 984 (0, xi_bin xF_add 985, 0, 0)) (x_T 985 (x_L 985 (0, xi_sld 986, 0, 0)) (x_L 986 (0, xi_load 0 2 987, 0, 0))))) (x_T 989 (x_T 987 (x_L 987 (0, xi_load 3 0 988, 0, 0)) (x_T 988 (x_L 988 (0, xi_push (0, 4, 4) 989, 0, 0)) (x_L 989 (0, xi_bin xF_add 990, 0, 0)))) (x_T 990 (x_L 990 (0, xi_sld 991, 0, 0)) (x_T 991 (x_L 991 (0, xi_load 0 2 992, 0, 0)) (x_L 992 (0, xi_load 3 0 993, 0, 0)))))))
set_option maxRecDepth 20000 in
set_option maxHeartbeats 4000000 in
theorem tb_0_614_ok (K : xKx) (hK : x_KP K) (hS : ∀ R s A H V sc, K R s A H V sc → x_Scr R s A H V sc) : ∀ pc, x_EOq cls K xI m_0 pc (tb_0_614 pc) :=
  (x_Tok2
  (x_Tok2
  (x_Tok2
  (x_Tok2
  (x_Lok (x_st (I := xI) (xr_aload_n (i := 2) (x_dk dl_0_6_ok 14 rfl))))
  (x_Lok (x_st (I := xI) (xr_aload_n (i := 0) (x_dk dl_0_6_ok 15 rfl)))))
  (x_Tok2
  (x_Lok (x_st (I := xI) (xr_iload_n (i := 3) (x_dk dl_0_6_ok 16 rfl))))
  (x_Tok2
  (x_Lok (x_st (I := xI) (xr_iconst (n := 1) (z := 1) (v := 1) (x_dk dl_0_6_ok 17 rfl) (by decide) (by decide))))
  (x_Lok (x_st (I := xI) (xr_iadd (x_dk dl_0_6_ok 18 rfl)))))))
  (x_Tok2
  (x_Tok2
  (x_Lok (x_st (I := xI) (xr_sld hS (x_dk dl_0_6_ok 19 rfl))))
  (x_Tok2
  (x_Lok (x_st (I := xI) (xr_aload_n (i := 0) (x_dk dl_0_6_ok 20 rfl))))
  (x_Lok (x_st (I := xI) (xr_iload_n (i := 3) (x_dk dl_0_6_ok 21 rfl))))))
  (x_Tok2
  (x_Lok (x_st (I := xI) (xr_iconst (n := 2) (z := 2) (v := 2) (x_dk dl_0_6_ok 22 rfl) (by decide) (by decide))))
  (x_Tok2
  (x_Lok (x_st (I := xI) (xr_iadd (x_dk dl_0_6_ok 23 rfl))))
  (x_Lok (x_st (I := xI) (xr_sld hS (x_dk dl_0_6_ok 24 rfl))))))))
  (x_Tok2
  (x_Tok2
  (x_Tok2
  (x_Lok (x_st (I := xI) (xr_aload_n (i := 0) (x_dk dl_0_6_ok 25 rfl))))
  (x_Tok2
  (x_Lok (x_st (I := xI) (xr_iload_n (i := 3) (x_dk dl_0_6_ok 26 rfl))))
  (x_Lok (x_st (I := xI) (xr_iconst (n := 3) (z := 3) (v := 3) (x_dk dl_0_6_ok 27 rfl) (by decide) (by decide))))))
  (x_Tok2
  (x_Lok (x_st (I := xI) (xr_iadd (x_dk dl_0_6_ok 28 rfl))))
  (x_Tok2
  (x_Lok (x_st (I := xI) (xr_sld hS (x_dk dl_0_6_ok 29 rfl))))
  (x_Lok (x_st (I := xI) (xr_aload_n (i := 0) (x_dk dl_0_6_ok 30 rfl)))))))
  (x_Tok2
  (x_Tok2
  (x_Lok (x_st (I := xI) (xr_iload_n (i := 3) (x_dk dl_0_6_ok 31 rfl))))
  (x_Tok2
  (x_Lok (x_st (I := xI) (xr_iconst (n := 4) (z := 4) (v := 4) (x_dk dl_0_6_ok 32 rfl) (by decide) (by decide))))
  (x_Lok (x_st (I := xI) (xr_iadd (x_dk dl_0_6_ok 33 rfl))))))
  (x_Tok2
  (x_Lok (x_st (I := xI) (xr_sld hS (x_dk dl_0_6_ok 34 rfl))))
  (x_Tok2
  (x_Lok (x_st (I := xI) (xr_aload_n (i := 0) (x_dk dl_0_6_ok 35 rfl))))
  (x_Lok (x_st (I := xI) (xr_iload_n (i := 3) (x_dk dl_0_6_ok 36 rfl)))))))))
def tb_0_637 : Nat → xE := (x_T 1009 (x_T 999 (x_T 994 (x_T 993 (x_L 993 (0, xi_push (0, 5, 5) 994, 0, 0)) (x_L 994 (0, xi_bin xF_add 995, 0, 0))) (x_T 995 (x_L 995 (0, xi_sld 996, 0, 0)) (x_T 996 (x_L 996 (2, x_nof, 128, 6)) (x_L 999 (0, xi_if2 0 2142 1002, 0, 0))))) (x_T 1006 (x_T 1004 (x_L 1004 (0, xi_load 1 2 1005, 0, 0)) (x_T 1005 (x_L 1005 (0, xi_load 0 2 1006, 0, 0)) (x_L 1006 (0, xi_load 3 0 1007, 0, 0)))) (x_T 1007 (x_L 1007 (0, xi_push (0, 1, 1) 1008, 0, 0)) (x_T 1008 (x_L 1008 (0, xi_bin xF_add 1009, 0, 0)) (x_L 1009 (0, xi_sld 1010, 0, 0)))))) (x_T 1014 (x_T 1011 (x_T 1010 (x_L 1010 (0, xi_load 0 2 1011, 0, 0)) (x_L 1011 (0, xi_load 3 0 1012, 0, 0))) (x_T 1012 (x_L 1012 (0, xi_push (0, 2, 2) 1013, 0, 0)) (x_T 1013 (x_L 1013 (0, xi_bin xF_add 1014, 0, 0)) (x_L 1014 (0, xi_sld 1015, 0, 0))))) (x_T 1019 (x_T 1015 (x_L 1015 (2, x_nof, 57, 3)) (x_T 1018 (x_L 1018 (0, xi_load 2 2 1019, 0, 0)) (x_L 1019 (0, xi_load 0 2 1020, 0, 0)))) (x_T 1020 (x_L 1020 (0, xi_load 3 0 1021, 0, 0)) (x_T 1021 (x_L 1021 (0, xi_push (0, 1, 1) 1022, 0, 0)) (x_L 1022 (0, xi_bin xF_add 1023, 0, 0)))))))
set_option maxRecDepth 20000 in
set_option maxHeartbeats 4000000 in
theorem tb_0_637_ok (K : xKx) (hK : x_KP K) (hS : ∀ R s A H V sc, K R s A H V sc → x_Scr R s A H V sc) : ∀ pc, x_EOq cls K xI m_0 pc (tb_0_637 pc) :=
  (x_Tok2
  (x_Tok2
  (x_Tok2
  (x_Tok2
  (x_Lok (x_st (I := xI) (xr_iconst (n := 5) (z := 5) (v := 5) (x_dk dl_0_6_ok 37 rfl) (by decide) (by decide))))
  (x_Lok (x_st (I := xI) (xr_iadd (x_dk dl_0_6_ok 38 rfl)))))
  (x_Tok2
  (x_Lok (x_st (I := xI) (xr_sld hS (x_dk dl_0_6_ok 39 rfl))))
  (x_Tok2
  (x_Lok (x_ca (I := xI) (q' := m_128) rfl (xr_callV (q' := m_128) (ix := 82) (n := 5) (in_t11 (List.mem_of_getElem? (i := 104) rfl) rfl) good_w (in_t1 (List.mem_of_getElem? (i := 14) rfl) rfl) (in_t11 (List.mem_of_getElem? (i := 101) rfl) rfl) (in_t11 (List.mem_of_getElem? (i := 102) rfl) rfl) (in_t11 (List.mem_of_getElem? (i := 103) rfl) rfl) (by decide +kernel) (by decide +kernel) (by decide +kernel) (x_dk dl_0_6_ok 40 rfl))))
  (x_Lok (x_st (I := xI) (xr_icmpeq (off := 1143) (tg := 2142) (x_dk dl_0_6_ok 41 rfl) (by decide)))))))
  (x_Tok2
  (x_Tok2
  (x_Lok (x_st (I := xI) (xr_aload_n (i := 1) (x_dk dl_0_6_ok 42 rfl))))
  (x_Tok2
  (x_Lok (x_st (I := xI) (xr_aload_n (i := 0) (x_dk dl_0_6_ok 43 rfl))))
  (x_Lok (x_st (I := xI) (xr_iload_n (i := 3) (x_dk dl_0_6_ok 44 rfl))))))
  (x_Tok2
  (x_Lok (x_st (I := xI) (xr_iconst (n := 1) (z := 1) (v := 1) (x_dk dl_0_6_ok 45 rfl) (by decide) (by decide))))
  (x_Tok2
  (x_Lok (x_st (I := xI) (xr_iadd (x_dk dl_0_6_ok 46 rfl))))
  (x_Lok (x_st (I := xI) (xr_sld hS (x_dk dl_0_6_ok 47 rfl))))))))
  (x_Tok2
  (x_Tok2
  (x_Tok2
  (x_Lok (x_st (I := xI) (xr_aload_n (i := 0) (x_dk dl_0_6_ok 48 rfl))))
  (x_Lok (x_st (I := xI) (xr_iload_n (i := 3) (x_dk dl_0_6_ok 49 rfl)))))
  (x_Tok2
  (x_Lok (x_st (I := xI) (xr_iconst (n := 2) (z := 2) (v := 2) (x_dk dl_0_6_ok 50 rfl) (by decide) (by decide))))
  (x_Tok2
  (x_Lok (x_st (I := xI) (xr_iadd (x_dk dl_0_6_ok 51 rfl))))
  (x_Lok (x_st (I := xI) (xr_sld hS (x_dk dl_0_6_ok 52 rfl)))))))
  (x_Tok2
  (x_Tok2
  (x_Lok (x_ca (I := xI) (q' := m_57) rfl (xr_callV (q' := m_57) (ix := 83) (n := 2) (in_t5 (List.mem_of_getElem? (i := 46) rfl) rfl) good_w (in_t1 (List.mem_of_getElem? (i := 1) rfl) rfl) (in_t5 (List.mem_of_getElem? (i := 43) rfl) rfl) (in_t5 (List.mem_of_getElem? (i := 44) rfl) rfl) (in_t5 (List.mem_of_getElem? (i := 45) rfl) rfl) (by decide +kernel) (by decide +kernel) (by decide +kernel) (x_dk dl_0_6_ok 53 rfl))))
  (x_Tok2
  (x_Lok (x_st (I := xI) (xr_aload_n (i := 2) (x_dk dl_0_6_ok 54 rfl))))
  (x_Lok (x_st (I := xI) (xr_aload_n (i := 0) (x_dk dl_0_6_ok 55 rfl))))))
  (x_Tok2
  (x_Lok (x_st (I := xI) (xr_iload_n (i := 3) (x_dk dl_0_6_ok 56 rfl))))
  (x_Tok2
  (x_Lok (x_st (I := xI) (xr_iconst (n := 1) (z := 1) (v := 1) (x_dk dl_0_6_ok 57 rfl) (by decide) (by decide))))
  (x_Lok (x_st (I := xI) (xr_iadd (x_dk dl_0_6_ok 58 rfl)))))))))
def tb_0_659 : Nat → xE := (x_T 1039 (x_T 1027 (x_T 1024 (x_T 1023 (x_L 1023 (0, xi_sld 1024, 0, 0)) (x_L 1024 (0, xi_load 0 2 1025, 0, 0))) (x_T 1025 (x_L 1025 (0, xi_load 3 0 1026, 0, 0)) (x_T 1026 (x_L 1026 (0, xi_push (0, 2, 2) 1027, 0, 0)) (x_L 1027 (0, xi_bin xF_add 1028, 0, 0))))) (x_T 1032 (x_T 1028 (x_L 1028 (0, xi_sld 1029, 0, 0)) (x_T 1029 (x_L 1029 (2, x_nof, 129, 3)) (x_L 1032 (0, xi_if2 0 2142 1035, 0, 0)))) (x_T 1037 (x_L 1037 (0, xi_load 1 2 1038, 0, 0)) (x_T 1038 (x_L 1038 (0, xi_load 0 2 1039, 0, 0)) (x_L 1039 (0, xi_load 3 0 1040, 0, 0)))))) (x_T 1047 (x_T 1042 (x_T 1040 (x_L 1040 (0, xi_push (0, 1, 1) 1041, 0, 0)) (x_T 1041 (x_L 1041 (0, xi_bin xF_add 1042, 0, 0)) (x_L 1042 (0, xi_sld 1043, 0, 0)))) (x_T 1043 (x_L 1043 (2, x_nof, 58, 2)) (x_T 1046 (x_L 1046 (0, xi_load 2 2 1047, 0, 0)) (x_L 1047 (0, xi_load 0 2 1048, 0, 0))))) (x_T 1050 (x_T 1048 (x_L 1048 (0, xi_load 3 0 1049, 0, 0)) (x_T 1049 (x_L 1049 (0, xi_push (0, 1, 1) 1050, 0, 0)) (x_L 1050 (0, xi_bin xF_add 1051, 0, 0)))) (x_T 1051 (x_L 1051 (0, xi_sld 1052, 0, 0)) (x_T 1052 (x_L 1052 (2, x_nof, 130, 2)) (x_L 1055 (0, xi_if2 0 2142 1058, 0, 0)))))))
set_option maxRecDepth 20000 in
set_option maxHeartbeats 4000000 in
theorem tb_0_659_ok (K : xKx) (hK : x_KP K) (hS : ∀ R s A H V sc, K R s A H V sc → x_Scr R s A H V sc) : ∀ pc, x_EOq cls K xI m_0 pc (tb_0_659 pc) :=
  (x_Tok2
  (x_Tok2
  (x_Tok2
  (x_Tok2
  (x_Lok (x_st (I := xI) (xr_sld hS (x_dk dl_0_6_ok 59 rfl))))
  (x_Lok (x_st (I := xI) (xr_aload_n (i := 0) (x_dk dl_0_6_ok 60 rfl)))))
  (x_Tok2
  (x_Lok (x_st (I := xI) (xr_iload_n (i := 3) (x_dk dl_0_6_ok 61 rfl))))
  (x_Tok2
  (x_Lok (x_st (I := xI) (xr_iconst (n := 2) (z := 2) (v := 2) (x_dk dl_0_6_ok 62 rfl) (by decide) (by decide))))
  (x_Lok (x_st (I := xI) (xr_iadd (x_dk dl_0_6_ok 63 rfl)))))))
  (x_Tok2
  (x_Tok2
  (x_Lok (x_st (I := xI) (xr_sld hS (x_dk dl_0_6_ok 64 rfl))))
  (x_Tok2
  (x_Lok (x_ca (I := xI) (q' := m_129) rfl (xr_callV (q' := m_129) (ix := 86) (n := 2) (in_t11 (List.mem_of_getElem? (i := 108) rfl) rfl) good_w (in_t1 (List.mem_of_getElem? (i := 14) rfl) rfl) (in_t11 (List.mem_of_getElem? (i := 105) rfl) rfl) (in_t11 (List.mem_of_getElem? (i := 106) rfl) rfl) (in_t11 (List.mem_of_getElem? (i := 107) rfl) rfl) (by decide +kernel) (by decide +kernel) (by decide +kernel) (x_dk dl_0_6_ok 65 rfl))))
  (x_Lok (x_st (I := xI) (xr_icmpeq (off := 1110) (tg := 2142) (x_dk dl_0_6_ok 66 rfl) (by decide))))))
  (x_Tok2
  (x_Lok (x_st (I := xI) (xr_aload_n (i := 1) (x_dk dl_0_6_ok 67 rfl))))
  (x_Tok2
  (x_Lok (x_st (I := xI) (xr_aload_n (i := 0) (x_dk dl_0_6_ok 68 rfl))))
  (x_Lok (x_st (I := xI) (xr_iload_n (i := 3) (x_dk dl_0_6_ok 69 rfl))))))))
  (x_Tok2
  (x_Tok2
  (x_Tok2
  (x_Lok (x_st (I := xI) (xr_iconst (n := 1) (z := 1) (v := 1) (x_dk dl_0_6_ok 70 rfl) (by decide) (by decide))))
  (x_Tok2
  (x_Lok (x_st (I := xI) (xr_iadd (x_dk dl_0_6_ok 71 rfl))))
  (x_Lok (x_st (I := xI) (xr_sld hS (x_dk dl_0_6_ok 72 rfl))))))
  (x_Tok2
  (x_Lok (x_ca (I := xI) (q' := m_58) rfl (xr_callV (q' := m_58) (ix := 87) (n := 1) (in_t5 (List.mem_of_getElem? (i := 50) rfl) rfl) good_w (in_t1 (List.mem_of_getElem? (i := 1) rfl) rfl) (in_t5 (List.mem_of_getElem? (i := 47) rfl) rfl) (in_t5 (List.mem_of_getElem? (i := 48) rfl) rfl) (in_t5 (List.mem_of_getElem? (i := 49) rfl) rfl) (by decide +kernel) (by decide +kernel) (by decide +kernel) (x_dk dl_0_6_ok 73 rfl))))
  (x_Tok2
  (x_Lok (x_st (I := xI) (xr_aload_n (i := 2) (x_dk dl_0_6_ok 74 rfl))))
  (x_Lok (x_st (I := xI) (xr_aload_n (i := 0) (x_dk dl_0_6_ok 75 rfl)))))))
  (x_Tok2
  (x_Tok2
  (x_Lok (x_st (I := xI) (xr_iload_n (i := 3) (x_dk dl_0_6_ok 76 rfl))))
  (x_Tok2
  (x_Lok (x_st (I := xI) (xr_iconst (n := 1) (z := 1) (v := 1) (x_dk dl_0_6_ok 77 rfl) (by decide) (by decide))))
  (x_Lok (x_st (I := xI) (xr_iadd (x_dk dl_0_6_ok 78 rfl))))))
  (x_Tok2
  (x_Lok (x_st (I := xI) (xr_sld hS (x_dk dl_0_6_ok 79 rfl))))
  (x_Tok2
  (x_Lok (x_ca (I := xI) (q' := m_130) rfl (xr_callV (q' := m_130) (ix := 90) (n := 1) (in_t11 (List.mem_of_getElem? (i := 114) rfl) rfl) good_w (in_t1 (List.mem_of_getElem? (i := 14) rfl) rfl) (in_t11 (List.mem_of_getElem? (i := 111) rfl) rfl) (in_t11 (List.mem_of_getElem? (i := 112) rfl) rfl) (in_t11 (List.mem_of_getElem? (i := 113) rfl) rfl) (by decide +kernel) (by decide +kernel) (by decide +kernel) (x_dk dl_0_6_ok 80 rfl))))
  (x_Lok (x_st (I := xI) (xr_icmpeq (off := 1087) (tg := 2142) (x_dk dl_0_6_ok 81 rfl) (by decide)))))))))
def tb_0_682 : Nat → xE := (x_T 1070 (x_T 1064 (x_T 1061 (x_T 1060 (x_L 1060 (0, xi_load 1 2 1061, 0, 0)) (x_L 1061 (0, xi_load 0 2 1062, 0, 0))) (x_T 1062 (x_L 1062 (0, xi_load 3 0 1063, 0, 0)) (x_T 1063 (x_L 1063 (0, xi_push (0, 1, 1) 1064, 0, 0)) (x_L 1064 (0, xi_bin xF_add 1065, 0, 0))))) (x_T 1067 (x_T 1065 (x_L 1065 (0, xi_sld 1066, 0, 0)) (x_T 1066 (x_L 1066 (0, xi_load 0 2 1067, 0, 0)) (x_L 1067 (0, xi_load 3 0 1068, 0, 0)))) (x_T 1068 (x_L 1068 (0, xi_push (0, 2, 2) 1069, 0, 0)) (x_T 1069 (x_L 1069 (0, xi_bin xF_add 1070, 0, 0)) (x_L 1070 (0, xi_sld 1071, 0, 0)))))) (x_T 1082 (x_T 1075 (x_T 1071 (x_L 1071 (0, xi_if1 0 1078 1074, 0, 0)) (x_T 1074 (x_L 1074 (0, xi_push (0, 1, 1) 1075, 0, 0)) (x_L 1075 (0, xi_goto 1079, 0, 0)))) (x_T 1078 (x_L 1078 (0, xi_push (0, 0, 0) 1079, 0, 0)) (x_T 1079 (x_L 1079 (2, x_nof, 59, 3)) (x_L 1082 (0, xi_load 2 2 1083, 0, 0))))) (x_T 1085 (x_T 1083 (x_L 1083 (0, xi_load 0 2 1084, 0, 0)) (x_T 1084 (x_L 1084 (0, xi_load 3 0 1085, 0, 0)) (x_L 1085 (0, xi_push (0, 1, 1) 1086, 0, 0)))) (x_T 1086 (x_L 1086 (0, xi_bin xF_add 1087, 0, 0)) (x_T 1087 (x_L 1087 (0, xi_sld 1088, 0, 0)) (x_L 1088 (0, xi_load 0 2 1089, 0, 0)))))))
set_option maxRecDepth 20000 in
set_option maxHeartbeats 4000000 in
theorem tb_0_682_ok (K : xKx) (hK : x_KP K) (hS : ∀ R s A H V sc, K R s A H V sc → x_Scr R s A H V sc) : ∀ pc, x_EOq cls K xI m_0 pc (tb_0_682 pc) :=
  (x_Tok2
  (x_Tok2
  (x_Tok2
  (x_Tok2
  (x_Lok (x_st (I := xI) (xr_aload_n (i := 1) (x_dk dl_0_6_ok 82 rfl))))
  (x_Lok (x_st (I := xI) (xr_aload_n (i := 0) (x_dk dl_0_6_ok 83 rfl)))))
  (x_Tok2
  (x_Lok (x_st (I := xI) (xr_iload_n (i := 3) (x_dk dl_0_6_ok 84 rfl))))
  (x_Tok2
  (x_Lok (x_st (I := xI) (xr_iconst (n := 1) (z := 1) (v := 1) (x_dk dl_0_6_ok 85 rfl) (by decide) (by decide))))
  (x_Lok (x_st (I := xI) (xr_iadd (x_dk dl_0_6_ok 86 rfl)))))))
  (x_Tok2
  (x_Tok2
  (x_Lok (x_st (I := xI) (xr_sld hS (x_dk dl_0_6_ok 87 rfl))))
  (x_Tok2
  (x_Lok (x_st (I := xI) (xr_aload_n (i := 0) (x_dk dl_0_6_ok 88 rfl))))
  (x_Lok (x_st (I := xI) (xr_iload_n (i := 3) (x_dk dl_0_6_ok 89 rfl))))))
  (x_Tok2
  (x_Lok (x_st (I := xI) (xr_iconst (n := 2) (z := 2) (v := 2) (x_dk dl_0_6_ok 90 rfl) (by decide) (by decide))))
  (x_Tok2
  (x_Lok (x_st (I := xI) (xr_iadd (x_dk dl_0_6_ok 91 rfl))))
  (x_Lok (x_st (I := xI) (xr_sld hS (x_dk dl_0_6_ok 92 rfl))))))))
  (x_Tok2
  (x_Tok2
  (x_Tok2
  (x_Lok (x_st (I := xI) (xr_ifeq (off := 7) (tg := 1078) (x_dk dl_0_6_ok 93 rfl) (by decide))))
  (x_Tok2
  (x_Lok (x_st (I := xI) (xr_iconst (n := 1) (z := 1) (v := 1) (x_dk dl_0_6_ok 94 rfl) (by decide) (by decide))))
  (x_Lok (x_st (I := xI) (xr_goto (off := 4) (tg := 1079) (x_dk dl_0_6_ok 95 rfl) (by decide))))))
  (x_Tok2
  (x_Lok (x_st (I := xI) (xr_iconst (n := 0) (z := 0) (v := 0) (x_dk dl_0_6_ok 96 rfl) (by decide) (by decide))))
  (x_Tok2
  (x_Lok (x_ca (I := xI) (q' := m_59) rfl (xr_callV (q' := m_59) (ix := 91) (n := 2) (in_t5 (List.mem_of_getElem? (i := 54) rfl) rfl) good_w (in_t1 (List.mem_of_getElem? (i := 1) rfl) rfl) (in_t5 (List.mem_of_getElem? (i := 51) rfl) rfl) (in_t5 (List.mem_of_getElem? (i := 52) rfl) rfl) (in_t5 (List.mem_of_getElem? (i := 53) rfl) rfl) (by decide +kernel) (by decide +kernel) (by decide +kernel) (x_dk dl_0_6_ok 97 rfl))))
  (x_Lok (x_st (I := xI) (xr_aload_n (i := 2) (x_dk dl_0_6_ok 98 rfl)))))))
  (x_Tok2
  (x_Tok2
  (x_Lok (x_st (I := xI) (xr_aload_n (i := 0) (x_dk dl_0_6_ok 99 rfl))))
  (x_Tok2
  (x_Lok (x_st (I := xI) (xr_iload_n (i := 3) (x_dk dl_0_7_ok 0 rfl))))
  (x_Lok (x_st (I := xI) (xr_iconst (n := 1) (z := 1) (v := 1) (x_dk dl_0_7_ok 1 rfl) (by decide) (by decide))))))
  (x_Tok2
  (x_Lok (x_st (I := xI) (xr_iadd (x_dk dl_0_7_ok 2 rfl))))
  (x_Tok2
  (x_Lok (x_st (I := xI) (xr_sld hS (x_dk dl_0_7_ok 3 rfl))))
  (x_Lok (x_st (I := xI) (xr_aload_n (i := 0) (x_dk dl_0_7_ok 4 rfl)))))))))
def tb_0_705 : Nat → xE := (x_T 1109 (x_T 1093 (x_T 1090 (x_T 1089 (x_L 1089 (0, xi_load 3 0 1090, 0, 0)) (x_L 1090 (0, xi_push (0, 2, 2) 1091, 0, 0))) (x_T 1091 (x_L 1091 (0, xi_bin xF_add 1092, 0, 0)) (x_T 1092 (x_L 1092 (0, xi_sld 1093, 0, 0)) (x_L 1093 (0, xi_if1 0 1100 1096, 0, 0))))) (x_T 1100 (x_T 1096 (x_L 1096 (0, xi_push (0, 1, 1) 1097, 0, 0)) (x_T 1097 (x_L 1097 (0, xi_goto 1101, 0, 0)) (x_L 1100 (0, xi_push (0, 0, 0) 1101, 0, 0)))) (x_T 1101 (x_L 1101 (2, x_nof, 131, 3)) (x_T 1104 (x_L 1104 (0, xi_if2 0 2142 1107, 0, 0)) (x_L 1109 (0, xi_load 1 2 1110, 0, 0)))))) (x_T 1115 (x_T 1112 (x_T 1110 (x_L 1110 (0, xi_load 0 2 1111, 0, 0)) (x_T 1111 (x_L 1111 (0, xi_load 3 0 1112, 0, 0)) (x_L 1112 (0, xi_push (0, 1, 1) 1113, 0, 0)))) (x_T 1113 (x_L 1113 (0, xi_bin xF_add 1114, 0, 0)) (x_T 1114 (x_L 1114 (0, xi_sld 1115, 0, 0)) (x_L 1115 (0, xi_load 0 2 1116, 0, 0))))) (x_T 1118 (x_T 1116 (x_L 1116 (0, xi_load 3 0 1117, 0, 0)) (x_T 1117 (x_L 1117 (0, xi_push (0, 2, 2) 1118, 0, 0)) (x_L 1118 (0, xi_bin xF_add 1119, 0, 0)))) (x_T 1119 (x_L 1119 (0, xi_sld 1120, 0, 0)) (x_T 1120 (x_L 1120 (0, xi_load 0 2 1121, 0, 0)) (x_L 1121 (0, xi_load 3 0 1122, 0, 0)))))))
set_option maxRecDepth 20000 in
set_option maxHeartbeats 4000000 in
theorem tb_0_705_ok (K : xKx) (hK : x_KP K) (hS : ∀ R s A H V sc, K R s A H V sc → x_Scr R s A H V sc) : ∀ pc, x_EOq cls K xI m_0 pc (tb_0_705 pc) :=
  (x_Tok2
  (x_Tok2
  (x_Tok2
  (x_Tok2
  (x_Lok (x_st (I := xI) (xr_iload_n (i := 3) (x_dk dl_0_7_ok 5 rfl))))
  (x_Lok (x_st (I := xI) (xr_iconst (n := 2) (z := 2) (v := 2) (x_dk dl_0_7_ok 6 rfl) (by decide) (by decide)))))
  (x_Tok2
  (x_Lok (x_st (I := xI) (xr_iadd (x_dk dl_0_7_ok 7 rfl))))
  (x_Tok2
  (x_Lok (x_st (I := xI) (xr_sld hS (x_dk dl_0_7_ok 8 rfl))))
  (x_Lok (x_st (I := xI) (xr_ifeq (off := 7) (tg := 1100) (x_dk dl_0_7_ok 9 rfl) (by decide)))))))
  (x_Tok2
  (x_Tok2
  (x_Lok (x_st (I := xI) (xr_iconst (n := 1) (z := 1) (v := 1) (x_dk dl_0_7_ok 10 rfl) (by decide) (by decide))))
  (x_Tok2
  (x_Lok (x_st (I := xI) (xr_goto (off := 4) (tg := 1101) (x_dk dl_0_7_ok 11 rfl) (by decide))))
  (x_Lok (x_st (I := xI) (xr_iconst (n := 0) (z := 0) (v := 0) (x_dk dl_0_7_ok 12 rfl) (by decide) (by decide))))))
  (x_Tok2
  (x_Lok (x_ca (I := xI) (q' := m_131) rfl (xr_callV (q' := m_131) (ix := 95) (n := 2) (in_t11 (List.mem_of_getElem? (i := 119) rfl) rfl) good_w (in_t1 (List.mem_of_getElem? (i := 14) rfl) rfl) (in_t11 (List.mem_of_getElem? (i := 116) rfl) rfl) (in_t11 (List.mem_of_getElem? (i := 117) rfl) rfl) (in_t11 (List.mem_of_getElem? (i := 118) rfl) rfl) (by decide +kernel) (by decide +kernel) (by decide +kernel) (x_dk dl_0_7_ok 13 rfl))))
  (x_Tok2
  (x_Lok (x_st (I := xI) (xr_icmpeq (off := 1038) (tg := 2142) (x_dk dl_0_7_ok 14 rfl) (by decide))))
  (x_Lok (x_st (I := xI) (xr_aload_n (i := 1) (x_dk dl_0_7_ok 15 rfl))))))))
  (x_Tok2
  (x_Tok2
  (x_Tok2
  (x_Lok (x_st (I := xI) (xr_aload_n (i := 0) (x_dk dl_0_7_ok 16 rfl))))
  (x_Tok2
  (x_Lok (x_st (I := xI) (xr_iload_n (i := 3) (x_dk dl_0_7_ok 17 rfl))))
  (x_Lok (x_st (I := xI) (xr_iconst (n := 1) (z := 1) (v := 1) (x_dk dl_0_7_ok 18 rfl) (by decide) (by decide))))))
  (x_Tok2
  (x_Lok (x_st (I := xI) (xr_iadd (x_dk dl_0_7_ok 19 rfl))))
  (x_Tok2
  (x_Lok (x_st (I := xI) (xr_sld hS (x_dk dl_0_7_ok 20 rfl))))
  (x_Lok (x_st (I := xI) (xr_aload_n (i := 0) (x_dk dl_0_7_ok 21 rfl)))))))
  (x_Tok2
  (x_Tok2
  (x_Lok (x_st (I := xI) (xr_iload_n (i := 3) (x_dk dl_0_7_ok 22 rfl))))
  (x_Tok2
  (x_Lok (x_st (I := xI) (xr_iconst (n := 2) (z := 2) (v := 2) (x_dk dl_0_7_ok 23 rfl) (by decide) (by decide))))
  (x_Lok (x_st (I := xI) (xr_iadd (x_dk dl_0_7_ok 24 rfl))))))
  (x_Tok2
  (x_Lok (x_st (I := xI) (xr_sld hS (x_dk dl_0_7_ok 25 rfl))))
  (x_Tok2
  (x_Lok (x_st (I := xI) (xr_aload_n (i := 0) (x_dk dl_0_7_ok 26 rfl))))
  (x_Lok (x_st (I := xI) (xr_iload_n (i := 3) (x_dk dl_0_7_ok 27 rfl)))))))))
def tb_0_728 : Nat → xE := (x_T 1138 (x_T 1128 (x_T 1123 (x_T 1122 (x_L 1122 (0, xi_push (0, 3, 3) 1123, 0, 0)) (x_L 1123 (0, xi_bin xF_add 1124, 0, 0))) (x_T 1124 (x_L 1124 (0, xi_sld 1125, 0, 0)) (x_T 1125 (x_L 1125 (0, xi_if1 0 1132 1128, 0, 0)) (x_L 1128 (0, xi_push (0, 1, 1) 1129, 0, 0))))) (x_T 1133 (x_T 1129 (x_L 1129 (0, xi_goto 1133, 0, 0)) (x_T 1132 (x_L 1132 (0, xi_push (0, 0, 0) 1133, 0, 0)) (x_L 1133 (2, x_nof, 60, 4)))) (x_T 1136 (x_L 1136 (0, xi_load 2 2 1137, 0, 0)) (x_T 1137 (x_L 1137 (0, xi_load 0 2 1138, 0, 0)) (x_L 1138 (0, xi_load 3 0 1139, 0, 0)))))) (x_T 1143 (x_T 1140 (x_T 1139 (x_L 1139 (0, xi_push (0, 1, 1) 1140, 0, 0)) (x_L 1140 (0, xi_bin xF_add 1141, 0, 0))) (x_T 1141 (x_L 1141 (0, xi_sld 1142, 0, 0)) (x_T 1142 (x_L 1142 (0, xi_load 0 2 1143, 0, 0)) (x_L 1143 (0, xi_load 3 0 1144, 0, 0))))) (x_T 1146 (x_T 1144 (x_L 1144 (0, xi_push (0, 2, 2) 1145, 0, 0)) (x_T 1145 (x_L 1145 (0, xi_bin xF_add 1146, 0, 0)) (x_L 1146 (0, xi_sld 1147, 0, 0)))) (x_T 1147 (x_L 1147 (0, xi_load 0 2 1148, 0, 0)) (x_T 1148 (x_L 1148 (0, xi_load 3 0 1149, 0, 0)) (x_L 1149 (0, xi_push (0, 3, 3) 1150, 0, 0)))))))
set_option maxRecDepth 20000 in
set_option maxHeartbeats 4000000 in
theorem tb_0_728_ok (K : xKx) (hK : x_KP K) (hS : ∀ R s A H V sc, K R s A H V sc → x_Scr R s A H V sc) : ∀ pc, x_EOq cls K xI m_0 pc (tb_0_728 pc) :=
  (x_Tok2
  (x_Tok2
  (x_Tok2
  (x_Tok2
  (x_Lok (x_st (I := xI) (xr_iconst (n := 3) (z := 3) (v := 3) (x_dk dl_0_7_ok 28 rfl) (by decide) (by decide))))
  (x_Lok (x_st (I := xI) (xr_iadd (x_dk dl_0_7_ok 29 rfl)))))
  (x_Tok2
  (x_Lok (x_st (I := xI) (xr_sld hS (x_dk dl_0_7_ok 30 rfl))))
  (x_Tok2
  (x_Lok (x_st (I := xI) (xr_ifeq (off := 7) (tg := 1132) (x_dk dl_0_7_ok 31 rfl) (by decide))))
  (x_Lok (x_st (I := xI) (xr_iconst (n := 1) (z := 1) (v := 1) (x_dk dl_0_7_ok 32 rfl) (by decide) (by decide)))))))
  (x_Tok2
  (x_Tok2
  (x_Lok (x_st (I := xI) (xr_goto (off := 4) (tg := 1133) (x_dk dl_0_7_ok 33 rfl) (by decide))))
  (x_Tok2
  (x_Lok (x_st (I := xI) (xr_iconst (n := 0) (z := 0) (v := 0) (x_dk dl_0_7_ok 34 rfl) (by decide) (by decide))))
  (x_Lok (x_ca (I := xI) (q' := m_60) rfl (xr_callV (q' := m_60) (ix := 96) (n := 3) (in_t5 (List.mem_of_getElem? (i := 58) rfl) rfl) good_w (in_t1 (List.mem_of_getElem? (i := 1) rfl) rfl) (in_t5 (List.mem_of_getElem? (i := 55) rfl) rfl) (in_t5 (List.mem_of_getElem? (i := 56) rfl) rfl) (in_t5 (List.mem_of_getElem? (i := 57) rfl) rfl) (by decide +kernel) (by decide +kernel) (by decide +kernel) (x_dk dl_0_7_ok 35 rfl))))))
  (x_Tok2
  (x_Lok (x_st (I := xI) (xr_aload_n (i := 2) (x_dk dl_0_7_ok 36 rfl))))
  (x_Tok2
  (x_Lok (x_st (I := xI) (xr_aload_n (i := 0) (x_dk dl_0_7_ok 37 rfl))))
  (x_Lok (x_st (I := xI) (xr_iload_n (i := 3) (x_dk dl_0_7_ok 38 rfl))))))))
  (x_Tok2
  (x_Tok2
  (x_Tok2
  (x_Lok (x_st (I := xI) (xr_iconst (n := 1) (z := 1) (v := 1) (x_dk dl_0_7_ok 39 rfl) (by decide) (by decide))))
  (x_Lok (x_st (I := xI) (xr_iadd (x_dk dl_0_7_ok 40 rfl)))))
  (x_Tok2
  (x_Lok (x_st (I := xI) (xr_sld hS (x_dk dl_0_7_ok 41 rfl))))
  (x_Tok2
  (x_Lok (x_st (I := xI) (xr_aload_n (i := 0) (x_dk dl_0_7_ok 42 rfl))))
  (x_Lok (x_st (I := xI) (xr_iload_n (i := 3) (x_dk dl_0_7_ok 43 rfl)))))))
  (x_Tok2
  (x_Tok2
  (x_Lok (x_st (I := xI) (xr_iconst (n := 2) (z := 2) (v := 2) (x_dk dl_0_7_ok 44 rfl) (by decide) (by decide))))
  (x_Tok2
  (x_Lok (x_st (I := xI) (xr_iadd (x_dk dl_0_7_ok 45 rfl))))
  (x_Lok (x_st (I := xI) (xr_sld hS (x_dk dl_0_7_ok 46 rfl))))))
  (x_Tok2
  (x_Lok (x_st (I := xI) (xr_aload_n (i := 0) (x_dk dl_0_7_ok 47 rfl))))
  (x_Tok2
  (x_Lok (x_st (I := xI) (xr_iload_n (i := 3) (x_dk dl_0_7_ok 48 rfl))))
  (x_Lok (x_st (I := xI) (xr_iconst (n := 3) (z := 3) (v := 3) (x_dk dl_0_7_ok 49 rfl) (by decide) (by decide)))))))))
def tb_0_750 : Nat → xE := (x_T 1170 (x_T 1156 (x_T 1151 (x_T 1150 (x_L 1150 (0, xi_bin xF_add 1151, 0, 0)) (x_L 1151 (0, xi_sld 1152, 0, 0))) (x_T 1152 (x_L 1152 (0, xi_if1 0 1159 1155, 0, 0)) (x_T 1155 (x_L 1155 (0, xi_push (0, 1, 1) 1156, 0, 0)) (x_L 1156 (0, xi_goto 1160, 0, 0))))) (x_T 1163 (x_T 1159 (x_L 1159 (0, xi_push (0, 0, 0) 1160, 0, 0)) (x_T 1160 (x_L 1160 (2, x_nof, 132, 4)) (x_L 1163 (0, xi_if2 0 2142 1166, 0, 0)))) (x_T 1168 (x_L 1168 (0, xi_load 1 2 1169, 0, 0)) (x_T 1169 (x_L 1169 (0, xi_load 0 2 1170, 0, 0)) (x_L 1170 (0, xi_load 3 0 1171, 0, 0)))))) (x_T 1178 (x_T 1173 (x_T 1171 (x_L 1171 (0, xi_push (0, 1, 1) 1172, 0, 0)) (x_T 1172 (x_L 1172 (0, xi_bin xF_add 1173, 0, 0)) (x_L 1173 (0, xi_sld 1174, 0, 0)))) (x_T 1174 (x_L 1174 (2, x_nof, 61, 2)) (x_T 1177 (x_L 1177 (0, xi_load 2 2 1178, 0, 0)) (x_L 1178 (0, xi_load 0 2 1179, 0, 0))))) (x_T 1181 (x_T 1179 (x_L 1179 (0, xi_load 3 0 1180, 0, 0)) (x_T 1180 (x_L 1180 (0, xi_push (0, 1, 1) 1181, 0, 0)) (x_L 1181 (0, xi_bin xF_add 1182, 0, 0)))) (x_T 1182 (x_L 1182 (0, xi_sld 1183, 0, 0)) (x_T 1183 (x_L 1183 (2, x_nof, 141, 2)) (x_L 1186 (0, xi_if2 0 2142 1189, 0, 0)))))))
set_option maxRecDepth 20000 in
set_option maxHeartbeats 4000000 in
theorem tb_0_750_ok (K : xKx) (hK : x_KP K) (hS : ∀ R s A H V sc, K R s A H V sc → x_Scr R s A H V sc) : ∀ pc, x_EOq cls K xI m_0 pc (tb_0_750 pc) :=
  (x_Tok2
  (x_Tok2
  (x_Tok2
  (x_Tok2
  (x_Lok (x_st (I := xI) (xr_iadd (x_dk dl_0_7_ok 50 rfl))))
  (x_Lok (x_st (I := xI) (xr_sld hS (x_dk dl_0_7_ok 51 rfl)))))
  (x_Tok2
  (x_Lok (x_st (I := xI) (xr_ifeq (off := 7) (tg := 1159) (x_dk dl_0_7_ok 52 rfl) (by decide))))
  (x_Tok2
  (x_Lok (x_st (I := xI) (xr_iconst (n := 1) (z := 1) (v := 1) (x_dk dl_0_7_ok 53 rfl) (by decide) (by decide))))
  (x_Lok (x_st (I := xI) (xr_goto (off := 4) (tg := 1160) (x_dk dl_0_7_ok 54 rfl) (by decide)))))))
  (x_Tok2
  (x_Tok2
  (x_Lok (x_st (I := xI) (xr_iconst (n := 0) (z := 0) (v := 0) (x_dk dl_0_7_ok 55 rfl) (by decide) (by decide))))
  (x_Tok2
  (x_Lok (x_ca (I := xI) (q' := m_132) rfl (xr_callV (q' := m_132) (ix := 100) (n := 3) (in_t11 (List.mem_of_getElem? (i := 124) rfl) rfl) good_w (in_t1 (List.mem_of_getElem? (i := 14) rfl) rfl) (in_t11 (List.mem_of_getElem? (i := 121) rfl) rfl) (in_t11 (List.mem_of_getElem? (i := 122) rfl) rfl) (in_t11 (List.mem_of_getElem? (i := 123) rfl) rfl) (by decide +kernel) (by decide +kernel) (by decide +kernel) (x_dk dl_0_7_ok 56 rfl))))
  (x_Lok (x_st (I := xI) (xr_icmpeq (off := 979) (tg := 2142) (x_dk dl_0_7_ok 57 rfl) (by decide))))))
  (x_Tok2
  (x_Lok (x_st (I := xI) (xr_aload_n (i := 1) (x_dk dl_0_7_ok 58 rfl))))
  (x_Tok2
  (x_Lok (x_st (I := xI) (xr_aload_n (i := 0) (x_dk dl_0_7_ok 59 rfl))))
  (x_Lok (x_st (I := xI) (xr_iload_n (i := 3) (x_dk dl_0_7_ok 60 rfl))))))))
  (x_Tok2
  (x_Tok2
  (x_Tok2
  (x_Lok (x_st (I := xI) (xr_iconst (n := 1) (z := 1) (v := 1) (x_dk dl_0_7_ok 61 rfl) (by decide) (by decide))))
  (x_Tok2
  (x_Lok (x_st (I := xI) (xr_iadd (x_dk dl_0_7_ok 62 rfl))))
  (x_Lok (x_st (I := xI) (xr_sld hS (x_dk dl_0_7_ok 63 rfl))))))
  (x_Tok2
  (x_Lok (x_ca (I := xI) (q' := m_61) rfl (xr_callV (q' := m_61) (ix := 101) (n := 1) (in_t5 (List.mem_of_getElem? (i := 71) rfl) rfl) good_w (in_t1 (List.mem_of_getElem? (i := 1) rfl) rfl) (in_t5 (List.mem_of_getElem? (i := 68) rfl) rfl) (in_t5 (List.mem_of_getElem? (i := 69) rfl) rfl) (in_t5 (List.mem_of_getElem? (i := 70) rfl) rfl) (by decide +kernel) (by decide +kernel) (by decide +kernel) (x_dk dl_0_7_ok 64 rfl))))
  (x_Tok2
  (x_Lok (x_st (I := xI) (xr_aload_n (i := 2) (x_dk dl_0_7_ok 65 rfl))))
  (x_Lok (x_st (I := xI) (xr_aload_n (i := 0) (x_dk dl_0_7_ok 66 rfl)))))))
  (x_Tok2
  (x_Tok2
  (x_Lok (x_st (I := xI) (xr_iload_n (i := 3) (x_dk dl_0_7_ok 67 rfl))))
  (x_Tok2
  (x_Lok (x_st (I := xI) (xr_iconst (n := 1) (z := 1) (v := 1) (x_dk dl_0_7_ok 68 rfl) (by decide) (by decide))))
  (x_Lok (x_st (I := xI) (xr_iadd (x_dk dl_0_7_ok 69 rfl))))))
  (x_Tok2
  (x_Lok (x_st (I := xI) (xr_sld hS (x_dk dl_0_7_ok 70 rfl))))
  (x_Tok2
  (x_Lok (x_ca (I := xI) (q' := m_141) rfl (xr_callV (q' := m_141) (ix := 104) (n := 1) (in_t11 (List.mem_of_getElem? (i := 205) rfl) rfl) good_w (in_t1 (List.mem_of_getElem? (i := 14) rfl) rfl) (in_t11 (List.mem_of_getElem? (i := 202) rfl) rfl) (in_t11 (List.mem_of_getElem? (i := 203) rfl) rfl) (in_t11 (List.mem_of_getElem? (i := 204) rfl) rfl) (by decide +kernel) (by decide +kernel) (by decide +kernel) (x_dk dl_0_7_ok 71 rfl))))
  (x_Lok (x_st (I := xI) (xr_icmpeq (off := 956) (tg := 2142) (x_dk dl_0_7_ok 72 rfl) (by decide)))))))))
def tb_0_773 : Nat → xE := (x_T 1203 (x_T 1195 (x_T 1192 (x_T 1191 (x_L 1191 (0, xi_load 1 2 1192, 0, 0)) (x_L 1192 (0, xi_load 0 2 1193, 0, 0))) (x_T 1193 (x_L 1193 (0, xi_load 3 0 1194, 0, 0)) (x_T 1194 (x_L 1194 (0, xi_push (0, 1, 1) 1195, 0, 0)) (x_L 1195 (0, xi_bin xF_add 1196, 0, 0))))) (x_T 1200 (x_T 1196 (x_L 1196 (0, xi_sld 1197, 0, 0)) (x_T 1197 (x_L 1197 (2, x_nof, 62, 2)) (x_L 1200 (0, xi_load 2 2 1201, 0, 0)))) (x_T 1201 (x_L 1201 (0, xi_load 0 2 1202, 0, 0)) (x_T 1202 (x_L 1202 (0, xi_load 3 0 1203, 0, 0)) (x_L 1203 (0, xi_push (0, 1, 1) 1204, 0, 0)))))) (x_T 1215 (x_T 1206 (x_T 1204 (x_L 1204 (0, xi_bin xF_add 1205, 0, 0)) (x_T 1205 (x_L 1205 (0, xi_sld 1206, 0, 0)) (x_L 1206 (2, x_nof, 142, 2)))) (x_T 1209 (x_L 1209 (0, xi_if2 0 2142 1212, 0, 0)) (x_T 1214 (x_L 1214 (0, xi_load 1 2 1215, 0, 0)) (x_L 1215 (2, x_nof, 63, 1))))) (x_T 1222 (x_T 1218 (x_L 1218 (0, xi_load 2 2 1219, 0, 0)) (x_T 1219 (x_L 1219 (2, x_nof, 133, 1)) (x_L 1222 (0, xi_if2 0 2142 1225, 0, 0)))) (x_T 1227 (x_L 1227 (0, xi_load 1 2 1228, 0, 0)) (x_T 1228 (x_L 1228 (0, xi_load 0 2 1229, 0, 0)) (x_L 1229 (0, xi_load 3 0 1230, 0, 0)))))))
set_option maxRecDepth 20000 in
set_option maxHeartbeats 4000000 in
theorem tb_0_773_ok (K : xKx) (hK : x_KP K) (hS : ∀ R s A H V sc, K R s A H V sc → x_Scr R s A H V sc) : ∀ pc, x_EOq cls K xI m_0 pc (tb_0_773 pc) :=
  (x_Tok2
  (x_Tok2
  (x_Tok2
  (x_Tok2
  (x_Lok (x_st (I := xI) (xr_aload_n (i := 1) (x_dk dl_0_7_ok 73 rfl))))
  (x_Lok (x_st (I := xI) (xr_aload_n (i := 0) (x_dk dl_0_7_ok 74 rfl)))))
  (x_Tok2
  (x_Lok (x_st (I := xI) (xr_iload_n (i := 3) (x_dk dl_0_7_ok 75 rfl))))
  (x_Tok2
  (x_Lok (x_st (I := xI) (xr_iconst (n := 1) (z := 1) (v := 1) (x_dk dl_0_7_ok 76 rfl) (by decide) (by decide))))
  (x_Lok (x_st (I := xI) (xr_iadd (x_dk dl_0_7_ok 77 rfl)))))))
  (x_Tok2
  (x_Tok2
  (x_Lok (x_st (I := xI) (xr_sld hS (x_dk dl_0_7_ok 78 rfl))))
  (x_Tok2
  (x_Lok (x_ca (I := xI) (q' := m_62) rfl (xr_callV (q' := m_62) (ix := 105) (n := 1) (in_t6 (List.mem_of_getElem? (i := 166) rfl) rfl) good_w (in_t1 (List.mem_of_getElem? (i := 1) rfl) rfl) (in_t6 (List.mem_of_getElem? (i := 163) rfl) rfl) (in_t6 (List.mem_of_getElem? (i := 164) rfl) rfl) (in_t6 (List.mem_of_getElem? (i := 165) rfl) rfl) (by decide +kernel) (by decide +kernel) (by decide +kernel) (x_dk dl_0_7_ok 79 rfl))))
  (x_Lok (x_st (I := xI) (xr_aload_n (i := 2) (x_dk dl_0_7_ok 80 rfl))))))
  (x_Tok2
  (x_Lok (x_st (I := xI) (xr_aload_n (i := 0) (x_dk dl_0_7_ok 81 rfl))))
  (x_Tok2
  (x_Lok (x_st (I := xI) (xr_iload_n (i := 3) (x_dk dl_0_7_ok 82 rfl))))
  (x_Lok (x_st (I := xI) (xr_iconst (n := 1) (z := 1) (v := 1) (x_dk dl_0_7_ok 83 rfl) (by decide) (by decide))))))))
  (x_Tok2
  (x_Tok2
  (x_Tok2
  (x_Lok (x_st (I := xI) (xr_iadd (x_dk dl_0_7_ok 84 rfl))))
  (x_Tok2
  (x_Lok (x_st (I := xI) (xr_sld hS (x_dk dl_0_7_ok 85 rfl))))
  (x_Lok (x_ca (I := xI) (q' := m_142) rfl (xr_callV (q' := m_142) (ix := 108) (n := 1) (in_t12 (List.mem_of_getElem? (i := 112) rfl) rfl) good_w (in_t1 (List.mem_of_getElem? (i := 14) rfl) rfl) (in_t12 (List.mem_of_getElem? (i := 109) rfl) rfl) (in_t12 (List.mem_of_getElem? (i := 110) rfl) rfl) (in_t12 (List.mem_of_getElem? (i := 111) rfl) rfl) (by decide +kernel) (by decide +kernel) (by decide +kernel) (x_dk dl_0_7_ok 86 rfl))))))
  (x_Tok2
  (x_Lok (x_st (I := xI) (xr_icmpeq (off := 933) (tg := 2142) (x_dk dl_0_7_ok 87 rfl) (by decide))))
  (x_Tok2
  (x_Lok (x_st (I := xI) (xr_aload_n (i := 1) (x_dk dl_0_7_ok 88 rfl))))
  (x_Lok (x_ca (I := xI) (q' := m_63) rfl (xr_callV (q' := m_63) (ix := 109) (n := 0) (in_t6 (List.mem_of_getElem? (i := 170) rfl) rfl) good_w (in_t1 (List.mem_of_getElem? (i := 1) rfl) rfl) (in_t6 (List.mem_of_getElem? (i := 167) rfl) rfl) (in_t6 (List.mem_of_getElem? (i := 168) rfl) rfl) (in_t6 (List.mem_of_getElem? (i := 169) rfl) rfl) (by decide +kernel) (by decide +kernel) (by decide +kernel) (x_dk dl_0_7_ok 89 rfl)))))))
  (x_Tok2
  (x_Tok2
  (x_Lok (x_st (I := xI) (xr_aload_n (i := 2) (x_dk dl_0_7_ok 90 rfl))))
  (x_Tok2
  (x_Lok (x_ca (I := xI) (q' := m_133) rfl (xr_callV (q' := m_133) (ix := 112) (n := 0) (in_t11 (List.mem_of_getElem? (i := 128) rfl) rfl) good_w (in_t1 (List.mem_of_getElem? (i := 14) rfl) rfl) (in_t11 (List.mem_of_getElem? (i := 125) rfl) rfl) (in_t11 (List.mem_of_getElem? (i := 126) rfl) rfl) (in_t11 (List.mem_of_getElem? (i := 127) rfl) rfl) (by decide +kernel) (by decide +kernel) (by decide +kernel) (x_dk dl_0_7_ok 91 rfl))))
  (x_Lok (x_st (I := xI) (xr_icmpeq (off := 920) (tg := 2142) (x_dk dl_0_7_ok 92 rfl) (by decide))))))
  (x_Tok2
  (x_Lok (x_st (I := xI) (xr_aload_n (i := 1) (x_dk dl_0_7_ok 93 rfl))))
  (x_Tok2
  (x_Lok (x_st (I := xI) (xr_aload_n (i := 0) (x_dk dl_0_7_ok 94 rfl))))
  (x_Lok (x_st (I := xI) (xr_iload_n (i := 3) (x_dk dl_0_7_ok 95 rfl)))))))))
def tb_0_796 : Nat → xE := (x_T 1242 (x_T 1234 (x_T 1231 (x_T 1230 (x_L 1230 (0, xi_push (0, 1, 1) 1231, 0, 0)) (x_L 1231 (0, xi_bin xF_add 1232, 0, 0))) (x_T 1232 (x_L 1232 (0, xi_sld 1233, 0, 0)) (x_T 1233 (x_L 1233 (0, xi_load 0 2 1234, 0, 0)) (x_L 1234 (0, xi_load 3 0 1235, 0, 0))))) (x_T 1237 (x_T 1235 (x_L 1235 (0, xi_push (0, 2, 2) 1236, 0, 0)) (x_T 1236 (x_L 1236 (0, xi_bin xF_add 1237, 0, 0)) (x_L 1237 (0, xi_sld 1238, 0, 0)))) (x_T 1238 (x_L 1238 (2, x_nof, 64, 3)) (x_T 1241 (x_L 1241 (0, xi_load 2 2 1242, 0, 0)) (x_L 1242 (0, xi_load 0 2 1243, 0, 0)))))) (x_T 1248 (x_T 1245 (x_T 1243 (x_L 1243 (0, xi_load 3 0 1244, 0, 0)) (x_T 1244 (x_L 1244 (0, xi_push (0, 1, 1) 1245, 0, 0)) (x_L 1245 (0, xi_bin xF_add 1246, 0, 0)))) (x_T 1246 (x_L 1246 (0, xi_sld 1247, 0, 0)) (x_T 1247 (x_L 1247 (0, xi_load 0 2 1248, 0, 0)) (x_L 1248 (0, xi_load 3 0 1249, 0, 0))))) (x_T 1251 (x_T 1249 (x_L 1249 (0, xi_push (0, 2, 2) 1250, 0, 0)) (x_T 1250 (x_L 1250 (0, xi_bin xF_add 1251, 0, 0)) (x_L 1251 (0, xi_sld 1252, 0, 0)))) (x_T 1252 (x_L 1252 (2, x_nof, 148, 3)) (x_T 1255 (x_L 1255 (0, xi_if2 0 2142 1258, 0, 0)) (x_L 1260 (0, xi_load 1 2 1261, 0, 0)))))))
set_option maxRecDepth 20000 in
set_option maxHeartbeats 4000000 in
theorem tb_0_796_ok (K : xKx) (hK : x_KP K) (hS : ∀ R s A H V sc, K R s A H V sc → x_Scr R s A H V sc) : ∀ pc, x_EOq cls K xI m_0 pc (tb_0_796 pc) :=
  (x_Tok2
  (x_Tok2
  (x_Tok2
  (x_Tok2
  (x_Lok (x_st (I := xI) (xr_iconst (n := 1) (z := 1) (v := 1) (x_dk dl_0_7_ok 96 rfl) (by decide) (by decide))))
  (x_Lok (x_st (I := xI) (xr_iadd (x_dk dl_0_7_ok 97 rfl)))))
  (x_Tok2
  (x_Lok (x_st (I := xI) (xr_sld hS (x_dk dl_0_7_ok 98 rfl))))
  (x_Tok2
  (x_Lok (x_st (I := xI) (xr_aload_n (i := 0) (x_dk dl_0_7_ok 99 rfl))))
  (x_Lok (x_st (I := xI) (xr_iload_n (i := 3) (x_dk dl_0_8_ok 0 rfl)))))))
  (x_Tok2
  (x_Tok2
  (x_Lok (x_st (I := xI) (xr_iconst (n := 2) (z := 2) (v := 2) (x_dk dl_0_8_ok 1 rfl) (by decide) (by decide))))
  (x_Tok2
  (x_Lok (x_st (I := xI) (xr_iadd (x_dk dl_0_8_ok 2 rfl))))
  (x_Lok (x_st (I := xI) (xr_sld hS (x_dk dl_0_8_ok 3 rfl))))))
  (x_Tok2
  (x_Lok (x_ca (I := xI) (q' := m_64) rfl (xr_callV (q' := m_64) (ix := 113) (n := 2) (in_t6 (List.mem_of_getElem? (i := 174) rfl) rfl) good_w (in_t1 (List.mem_of_getElem? (i := 1) rfl) rfl) (in_t6 (List.mem_of_getElem? (i := 171) rfl) rfl) (in_t6 (List.mem_of_getElem? (i := 172) rfl) rfl) (in_t6 (List.mem_of_getElem? (i := 173) rfl) rfl) (by decide +kernel) (by decide +kernel) (by decide +kernel) (x_dk dl_0_8_ok 4 rfl))))
  (x_Tok2
  (x_Lok (x_st (I := xI) (xr_aload_n (i := 2) (x_dk dl_0_8_ok 5 rfl))))
  (x_Lok (x_st (I := xI) (xr_aload_n (i := 0) (x_dk dl_0_8_ok 6 rfl))))))))
  (x_Tok2
  (x_Tok2
  (x_Tok2
  (x_Lok (x_st (I := xI) (xr_iload_n (i := 3) (x_dk dl_0_8_ok 7 rfl))))
  (x_Tok2
  (x_Lok (x_st (I := xI) (xr_iconst (n := 1) (z := 1) (v := 1) (x_dk dl_0_8_ok 8 rfl) (by decide) (by decide))))
  (x_Lok (x_st (I := xI) (xr_iadd (x_dk dl_0_8_ok 9 rfl))))))
  (x_Tok2
  (x_Lok (x_st (I := xI) (xr_sld hS (x_dk dl_0_8_ok 10 rfl))))
  (x_Tok2
  (x_Lok (x_st (I := xI) (xr_aload_n (i := 0) (x_dk dl_0_8_ok 11 rfl))))
  (x_Lok (x_st (I := xI) (xr_iload_n (i := 3) (x_dk dl_0_8_ok 12 rfl)))))))
  (x_Tok2
  (x_Tok2
  (x_Lok (x_st (I := xI) (xr_iconst (n := 2) (z := 2) (v := 2) (x_dk dl_0_8_ok 13 rfl) (by decide) (by decide))))
  (x_Tok2
  (x_Lok (x_st (I := xI) (xr_iadd (x_dk dl_0_8_ok 14 rfl))))
  (x_Lok (x_st (I := xI) (xr_sld hS (x_dk dl_0_8_ok 15 rfl))))))
  (x_Tok2
  (x_Lok (x_ca (I := xI) (q' := m_148) rfl (xr_callV (q' := m_148) (ix := 116) (n := 2) (in_t12 (List.mem_of_getElem? (i := 189) rfl) rfl) good_w (in_t1 (List.mem_of_getElem? (i := 14) rfl) rfl) (in_t12 (List.mem_of_getElem? (i := 186) rfl) rfl) (in_t12 (List.mem_of_getElem? (i := 187) rfl) rfl) (in_t12 (List.mem_of_getElem? (i := 188) rfl) rfl) (by decide +kernel) (by decide +kernel) (by decide +kernel) (x_dk dl_0_8_ok 16 rfl))))
  (x_Tok2
  (x_Lok (x_st (I := xI) (xr_icmpeq (off := 887) (tg := 2142) (x_dk dl_0_8_ok 17 rfl) (by decide))))
  (x_Lok (x_st (I := xI) (xr_aload_n (i := 1) (x_dk dl_0_8_ok 18 rfl)))))))))
def tb_0_819 : Nat → xE := (x_T 1273 (x_T 1265 (x_T 1262 (x_T 1261 (x_L 1261 (0, xi_load 0 2 1262, 0, 0)) (x_L 1262 (0, xi_load 3 0 1263, 0, 0))) (x_T 1263 (x_L 1263 (0, xi_push (0, 1, 1) 1264, 0, 0)) (x_T 1264 (x_L 1264 (0, xi_bin xF_add 1265, 0, 0)) (x_L 1265 (0, xi_sld 1266, 0, 0))))) (x_T 1270 (x_T 1266 (x_L 1266 (2, x_nof, 65, 2)) (x_T 1269 (x_L 1269 (0, xi_load 2 2 1270, 0, 0)) (x_L 1270 (0, xi_load 0 2 1271, 0, 0)))) (x_T 1271 (x_L 1271 (0, xi_load 3 0 1272, 0, 0)) (x_T 1272 (x_L 1272 (0, xi_push (0, 1, 1) 1273, 0, 0)) (x_L 1273 (0, xi_bin xF_add 1274, 0, 0)))))) (x_T 1284 (x_T 1275 (x_T 1274 (x_L 1274 (0, xi_sld 1275, 0, 0)) (x_L 1275 (2, x_nof, 149, 2))) (x_T 1278 (x_L 1278 (0, xi_if2 0 2142 1281, 0, 0)) (x_T 1283 (x_L 1283 (0, xi_load 1 2 1284, 0, 0)) (x_L 1284 (0, xi_load 0 2 1285, 0, 0))))) (x_T 1287 (x_T 1285 (x_L 1285 (0, xi_load 3 0 1286, 0, 0)) (x_T 1286 (x_L 1286 (0, xi_push (0, 1, 1) 1287, 0, 0)) (x_L 1287 (0, xi_bin xF_add 1288, 0, 0)))) (x_T 1288 (x_L 1288 (0, xi_sld 1289, 0, 0)) (x_T 1289 (x_L 1289 (0, xi_load 0 2 1290, 0, 0)) (x_L 1290 (0, xi_load 3 0 1291, 0, 0)))))))
set_option maxRecDepth 20000 in
set_option maxHeartbeats 4000000 in
theorem tb_0_819_ok (K : xKx) (hK : x_KP K) (hS : ∀ R s A H V sc, K R s A H V sc → x_Scr R s A H V sc) : ∀ pc, x_EOq cls K xI m_0 pc (tb_0_819 pc) :=
  (x_Tok2
  (x_Tok2
  (x_Tok2
  (x_Tok2
  (x_Lok (x_st (I := xI) (xr_aload_n (i := 0) (x_dk dl_0_8_ok 19 rfl))))
  (x_Lok (x_st (I := xI) (xr_iload_n (i := 3) (x_dk dl_0_8_ok 20 rfl)))))
  (x_Tok2
  (x_Lok (x_st (I := xI) (xr_iconst (n := 1) (z := 1) (v := 1) (x_dk dl_0_8_ok 21 rfl) (by decide) (by decide))))
  (x_Tok2
  (x_Lok (x_st (I := xI) (xr_iadd (x_dk dl_0_8_ok 22 rfl))))
  (x_Lok (x_st (I := xI) (xr_sld hS (x_dk dl_0_8_ok 23 rfl)))))))
  (x_Tok2
  (x_Tok2
  (x_Lok (x_ca (I := xI) (q' := m_65) rfl (xr_callV (q' := m_65) (ix := 117) (n := 1) (in_t7 (List.mem_of_getElem? (i := 45) rfl) rfl) good_w (in_t1 (List.mem_of_getElem? (i := 1) rfl) rfl) (in_t7 (List.mem_of_getElem? (i := 42) rfl) rfl) (in_t7 (List.mem_of_getElem? (i := 43) rfl) rfl) (in_t7 (List.mem_of_getElem? (i := 44) rfl) rfl) (by decide +kernel) (by decide +kernel) (by decide +kernel) (x_dk dl_0_8_ok 24 rfl))))
  (x_Tok2
  (x_Lok (x_st (I := xI) (xr_aload_n (i := 2) (x_dk dl_0_8_ok 25 rfl))))
  (x_Lok (x_st (I := xI) (xr_aload_n (i := 0) (x_dk dl_0_8_ok 26 rfl))))))
  (x_Tok2
  (x_Lok (x_st (I := xI) (xr_iload_n (i := 3) (x_dk dl_0_8_ok 27 rfl))))
  (x_Tok2
  (x_Lok (x_st (I := xI) (xr_iconst (n := 1) (z := 1) (v := 1) (x_dk dl_0_8_ok 28 rfl) (by decide) (by decide))))
  (x_Lok (x_st (I := xI) (xr_iadd (x_dk dl_0_8_ok 29 rfl))))))))
  (x_Tok2
  (x_Tok2
  (x_Tok2
  (x_Lok (x_st (I := xI) (xr_sld hS (x_dk dl_0_8_ok 30 rfl))))
  (x_Lok (x_ca (I := xI) (q' := m_149) rfl (xr_callV (q' := m_149) (ix := 120) (n := 1) (in_t12 (List.mem_of_getElem? (i := 197) rfl) rfl) good_w (in_t1 (List.mem_of_getElem? (i := 14) rfl) rfl) (in_t12 (List.mem_of_getElem? (i := 194) rfl) rfl) (in_t12 (List.mem_of_getElem? (i := 195) rfl) rfl) (in_t12 (List.mem_of_getElem? (i := 196) rfl) rfl) (by decide +kernel) (by decide +kernel) (by decide +kernel) (x_dk dl_0_8_ok 31 rfl)))))
  (x_Tok2
  (x_Lok (x_st (I := xI) (xr_icmpeq (off := 864) (tg := 2142) (x_dk dl_0_8_ok 32 rfl) (by decide))))
  (x_Tok2
  (x_Lok (x_st (I := xI) (xr_aload_n (i := 1) (x_dk dl_0_8_ok 33 rfl))))
  (x_Lok (x_st (I := xI) (xr_aload_n (i := 0) (x_dk dl_0_8_ok 34 rfl)))))))
  (x_Tok2
  (x_Tok2
  (x_Lok (x_st (I := xI) (xr_iload_n (i := 3) (x_dk dl_0_8_ok 35 rfl))))
  (x_Tok2
  (x_Lok (x_st (I := xI) (xr_iconst (n := 1) (z := 1) (v := 1) (x_dk dl_0_8_ok 36 rfl) (by decide) (by decide))))
  (x_Lok (x_st (I := xI) (xr_iadd (x_dk dl_0_8_ok 37 rfl))))))
  (x_Tok2
  (x_Lok (x_st (I := xI) (xr_sld hS (x_dk dl_0_8_ok 38 rfl))))
  (x_Tok2
  (x_Lok (x_st (I := xI) (xr_aload_n (i := 0) (x_dk dl_0_8_ok 39 rfl))))
  (x_Lok (x_st (I := xI) (xr_iload_n (i := 3) (x_dk dl_0_8_ok 40 rfl)))))))))
def tb_0_841 : Nat → xE := (x_T 1303 (x_T 1297 (x_T 1292 (x_T 1291 (x_L 1291 (0, xi_push (0, 2, 2) 1292, 0, 0)) (x_L 1292 (0, xi_bin xF_add 1293, 0, 0))) (x_T 1293 (x_L 1293 (0, xi_sld 1294, 0, 0)) (x_T 1294 (x_L 1294 (2, x_nof, 66, 3)) (x_L 1297 (0, xi_load 2 2 1298, 0, 0))))) (x_T 1300 (x_T 1298 (x_L 1298 (0, xi_load 0 2 1299, 0, 0)) (x_T 1299 (x_L 1299 (0, xi_load 3 0 1300, 0, 0)) (x_L 1300 (0, xi_push (0, 1, 1) 1301, 0, 0)))) (x_T 1301 (x_L 1301 (0, xi_bin xF_add 1302, 0, 0)) (x_T 1302 (x_L 1302 (0, xi_sld 1303, 0, 0)) (x_L 1303 (0, xi_load 0 2 1304, 0, 0)))))) (x_T 1311 (x_T 1306 (x_T 1304 (x_L 1304 (0, xi_load 3 0 1305, 0, 0)) (x_T 1305 (x_L 1305 (0, xi_push (0, 2, 2) 1306, 0, 0)) (x_L 1306 (0, xi_bin xF_add 1307, 0, 0)))) (x_T 1307 (x_L 1307 (0, xi_sld 1308, 0, 0)) (x_T 1308 (x_L 1308 (2, x_nof, 150, 3)) (x_L 1311 (0, xi_if2 0 2142 1314, 0, 0))))) (x_T 1318 (x_T 1316 (x_L 1316 (0, xi_load 1 2 1317, 0, 0)) (x_T 1317 (x_L 1317 (0, xi_load 0 2 1318, 0, 0)) (x_L 1318 (0, xi_load 3 0 1319, 0, 0)))) (x_T 1319 (x_L 1319 (0, xi_push (0, 1, 1) 1320, 0, 0)) (x_T 1320 (x_L 1320 (0, xi_bin xF_add 1321, 0, 0)) (x_L 1321 (0, xi_sld 1322, 0, 0)))))))
set_option maxRecDepth 20000 in
set_option maxHeartbeats 4000000 in
theorem tb_0_841_ok (K : xKx) (hK : x_KP K) (hS : ∀ R s A H V sc, K R s A H V sc → x_Scr R s A H V sc) : ∀ pc, x_EOq cls K xI m_0 pc (tb_0_841 pc) :=
  (x_Tok2
  (x_Tok2
  (x_Tok2
  (x_Tok2
  (x_Lok (x_st (I := xI) (xr_iconst (n := 2) (z := 2) (v := 2) (x_dk dl_0_8_ok 41 rfl) (by decide) (by decide))))
  (x_Lok (x_st (I := xI) (xr_iadd (x_dk dl_0_8_ok 42 rfl)))))
  (x_Tok2
  (x_Lok (x_st (I := xI) (xr_sld hS (x_dk dl_0_8_ok 43 rfl))))
  (x_Tok2
  (x_Lok (x_ca (I := xI) (q' := m_66) rfl (xr_callV (q' := m_66) (ix := 121) (n := 2) (in_t8 (List.mem_of_getElem? (i := 158) rfl) rfl) good_w (in_t1 (List.mem_of_getElem? (i := 1) rfl) rfl) (in_t8 (List.mem_of_getElem? (i := 155) rfl) rfl) (in_t8 (List.mem_of_getElem? (i := 156) rfl) rfl) (in_t8 (List.mem_of_getElem? (i := 157) rfl) rfl) (by decide +kernel) (by decide +kernel) (by decide +kernel) (x_dk dl_0_8_ok 44 rfl))))
  (x_Lok (x_st (I := xI) (xr_aload_n (i := 2) (x_dk dl_0_8_ok 45 rfl)))))))
  (x_Tok2
  (x_Tok2
  (x_Lok (x_st (I := xI) (xr_aload_n (i := 0) (x_dk dl_0_8_ok 46 rfl))))
  (x_Tok2
  (x_Lok (x_st (I := xI) (xr_iload_n (i := 3) (x_dk dl_0_8_ok 47 rfl))))
  (x_Lok (x_st (I := xI) (xr_iconst (n := 1) (z := 1) (v := 1) (x_dk dl_0_8_ok 48 rfl) (by decide) (by decide))))))
  (x_Tok2
  (x_Lok (x_st (I := xI) (xr_iadd (x_dk dl_0_8_ok 49 rfl))))
  (x_Tok2
  (x_Lok (x_st (I := xI) (xr_sld hS (x_dk dl_0_8_ok 50 rfl))))
  (x_Lok (x_st (I := xI) (xr_aload_n (i := 0) (x_dk dl_0_8_ok 51 rfl))))))))
  (x_Tok2
  (x_Tok2
  (x_Tok2
  (x_Lok (x_st (I := xI) (xr_iload_n (i := 3) (x_dk dl_0_8_ok 52 rfl))))
  (x_Tok2
  (x_Lok (x_st (I := xI) (xr_iconst (n := 2) (z := 2) (v := 2) (x_dk dl_0_8_ok 53 rfl) (by decide) (by decide))))
  (x_Lok (x_st (I := xI) (xr_iadd (x_dk dl_0_8_ok 54 rfl))))))
  (x_Tok2
  (x_Lok (x_st (I := xI) (xr_sld hS (x_dk dl_0_8_ok 55 rfl))))
  (x_Tok2
  (x_Lok (x_ca (I := xI) (q' := m_150) rfl (xr_callV (q' := m_150) (ix := 124) (n := 2) (in_t13 (List.mem_of_getElem? (i := 150) rfl) rfl) good_w (in_t1 (List.mem_of_getElem? (i := 14) rfl) rfl) (in_t13 (List.mem_of_getElem? (i := 147) rfl) rfl) (in_t13 (List.mem_of_getElem? (i := 148) rfl) rfl) (in_t13 (List.mem_of_getElem? (i := 149) rfl) rfl) (by decide +kernel) (by decide +kernel) (by decide +kernel) (x_dk dl_0_8_ok 56 rfl))))
  (x_Lok (x_st (I := xI) (xr_icmpeq (off := 831) (tg := 2142) (x_dk dl_0_8_ok 57 rfl) (by decide)))))))
  (x_Tok2
  (x_Tok2
  (x_Lok (x_st (I := xI) (xr_aload_n (i := 1) (x_dk dl_0_8_ok 58 rfl))))
  (x_Tok2
  (x_Lok (x_st (I := xI) (xr_aload_n (i := 0) (x_dk dl_0_8_ok 59 rfl))))
  (x_Lok (x_st (I := xI) (xr_iload_n (i := 3) (x_dk dl_0_8_ok 60 rfl))))))
  (x_Tok2
  (x_Lok (x_st (I := xI) (xr_iconst (n := 1) (z := 1) (v := 1) (x_dk dl_0_8_ok 61 rfl) (by decide) (by decide))))
  (x_Tok2
  (x_Lok (x_st (I := xI) (xr_iadd (x_dk dl_0_8_ok 62 rfl))))
  (x_Lok (x_st (I := xI) (xr_sld hS (x_dk dl_0_8_ok 63 rfl)))))))))
def tb_0_864 : Nat → xE := (x_T 1332 (x_T 1326 (x_T 1323 (x_T 1322 (x_L 1322 (0, xi_load 0 2 1323, 0, 0)) (x_L 1323 (0, xi_load 3 0 1324, 0, 0))) (x_T 1324 (x_L 1324 (0, xi_push (0, 2, 2) 1325, 0, 0)) (x_T 1325 (x_L 1325 (0, xi_bin xF_add 1326, 0, 0)) (x_L 1326 (0, xi_sld 1327, 0, 0))))) (x_T 1329 (x_T 1327 (x_L 1327 (0, xi_load 0 2 1328, 0, 0)) (x_T 1328 (x_L 1328 (0, xi_load 3 0 1329, 0, 0)) (x_L 1329 (0, xi_push (0, 3, 3) 1330, 0, 0)))) (x_T 1330 (x_L 1330 (0, xi_bin xF_add 1331, 0, 0)) (x_T 1331 (x_L 1331 (0, xi_sld 1332, 0, 0)) (x_L 1332 (0, xi_if1 0 1339 1335, 0, 0)))))) (x_T 1344 (x_T 1339 (x_T 1335 (x_L 1335 (0, xi_push (0, 1, 1) 1336, 0, 0)) (x_T 1336 (x_L 1336 (0, xi_goto 1340, 0, 0)) (x_L 1339 (0, xi_push (0, 0, 0) 1340, 0, 0)))) (x_T 1340 (x_L 1340 (2, x_nof, 67, 4)) (x_T 1343 (x_L 1343 (0, xi_load 2 2 1344, 0, 0)) (x_L 1344 (0, xi_load 0 2 1345, 0, 0))))) (x_T 1347 (x_T 1345 (x_L 1345 (0, xi_load 3 0 1346, 0, 0)) (x_T 1346 (x_L 1346 (0, xi_push (0, 1, 1) 1347, 0, 0)) (x_L 1347 (0, xi_bin xF_add 1348, 0, 0)))) (x_T 1348 (x_L 1348 (0, xi_sld 1349, 0, 0)) (x_T 1349 (x_L 1349 (0, xi_load 0 2 1350, 0, 0)) (x_L 1350 (0, xi_load 3 0 1351, 0, 0)))))))
set_option maxRecDepth 20000 in
set_option maxHeartbeats 4000000 in
theorem tb_0_864_ok (K : xKx) (hK : x_KP K) (hS : ∀ R s A H V sc, K R s A H V sc → x_Scr R s A H V sc) : ∀ pc, x_EOq cls K xI m_0 pc (tb_0_864 pc) :=
  (x_Tok2
  (x_Tok2
  (x_Tok2
  (x_Tok2
  (x_Lok (x_st (I := xI) (xr_aload_n (i := 0) (x_dk dl_0_8_ok 64 rfl))))
  (x_Lok (x_st (I := xI) (xr_iload_n (i := 3) (x_dk dl_0_8_ok 65 rfl)))))
  (x_Tok2
  (x_Lok (x_st (I := xI) (xr_iconst (n := 2) (z := 2) (v := 2) (x_dk dl_0_8_ok 66 rfl) (by decide) (by decide))))
  (x_Tok2
  (x_Lok (x_st (I := xI) (xr_iadd (x_dk dl_0_8_ok 67 rfl))))
  (x_Lok (x_st (I := xI) (xr_sld hS (x_dk dl_0_8_ok 68 rfl)))))))
  (x_Tok2
  (x_Tok2
  (x_Lok (x_st (I := xI) (xr_aload_n (i := 0) (x_dk dl_0_8_ok 69 rfl))))
  (x_Tok2
  (x_Lok (x_st (I := xI) (xr_iload_n (i := 3) (x_dk dl_0_8_ok 70 rfl))))
  (x_Lok (x_st (I := xI) (xr_iconst (n := 3) (z := 3) (v := 3) (x_dk dl_0_8_ok 71 rfl) (by decide) (by decide))))))
  (x_Tok2
  (x_Lok (x_st (I := xI) (xr_iadd (x_dk dl_0_8_ok 72 rfl))))
  (x_Tok2
  (x_Lok (x_st (I := xI) (xr_sld hS (x_dk dl_0_8_ok 73 rfl))))
  (x_Lok (x_st (I := xI) (xr_ifeq (off := 7) (tg := 1339) (x_dk dl_0_8_ok 74 rfl) (by decide))))))))
  (x_Tok2
  (x_Tok2
  (x_Tok2
  (x_Lok (x_st (I := xI) (xr_iconst (n := 1) (z := 1) (v := 1) (x_dk dl_0_8_ok 75 rfl) (by decide) (by decide))))
  (x_Tok2
  (x_Lok (x_st (I := xI) (xr_goto (off := 4) (tg := 1340) (x_dk dl_0_8_ok 76 rfl) (by decide))))
  (x_Lok (x_st (I := xI) (xr_iconst (n := 0) (z := 0) (v := 0) (x_dk dl_0_8_ok 77 rfl) (by decide) (by decide))))))
  (x_Tok2
  (x_Lok (x_ca (I := xI) (q' := m_67) rfl (xr_callV (q' := m_67) (ix := 125) (n := 3) (in_t8 (List.mem_of_getElem? (i := 162) rfl) rfl) good_w (in_t1 (List.mem_of_getElem? (i := 1) rfl) rfl) (in_t8 (List.mem_of_getElem? (i := 159) rfl) rfl) (in_t8 (List.mem_of_getElem? (i := 160) rfl) rfl) (in_t8 (List.mem_of_getElem? (i := 161) rfl) rfl) (by decide +kernel) (by decide +kernel) (by decide +kernel) (x_dk dl_0_8_ok 78 rfl))))
  (x_Tok2
  (x_Lok (x_st (I := xI) (xr_aload_n (i := 2) (x_dk dl_0_8_ok 79 rfl))))
  (x_Lok (x_st (I := xI) (xr_aload_n (i := 0) (x_dk dl_0_8_ok 80 rfl)))))))
  (x_Tok2
  (x_Tok2
  (x_Lok (x_st (I := xI) (xr_iload_n (i := 3) (x_dk dl_0_8_ok 81 rfl))))
  (x_Tok2
  (x_Lok (x_st (I := xI) (xr_iconst (n := 1) (z := 1) (v := 1) (x_dk dl_0_8_ok 82 rfl) (by decide) (by decide))))
  (x_Lok (x_st (I := xI) (xr_iadd (x_dk dl_0_8_ok 83 rfl))))))
  (x_Tok2
  (x_Lok (x_st (I := xI) (xr_sld hS (x_dk dl_0_8_ok 84 rfl))))
  (x_Tok2
  (x_Lok (x_st (I := xI) (xr_aload_n (i := 0) (x_dk dl_0_8_ok 85 rfl))))
  (x_Lok (x_st (I := xI) (xr_iload_n (i := 3) (x_dk dl_0_8_ok 86 rfl)))))))))
def tb_0_887 : Nat → xE := (x_T 1363 (x_T 1355 (x_T 1352 (x_T 1351 (x_L 1351 (0, xi_push (0, 2, 2) 1352, 0, 0)) (x_L 1352 (0, xi_bin xF_add 1353, 0, 0))) (x_T 1353 (x_L 1353 (0, xi_sld 1354, 0, 0)) (x_T 1354 (x_L 1354 (0, xi_load 0 2 1355, 0, 0)) (x_L 1355 (0, xi_load 3 0 1356, 0, 0))))) (x_T 1358 (x_T 1356 (x_L 1356 (0, xi_push (0, 3, 3) 1357, 0, 0)) (x_T 1357 (x_L 1357 (0, xi_bin xF_add 1358, 0, 0)) (x_L 1358 (0, xi_sld 1359, 0, 0)))) (x_T 1359 (x_L 1359 (0, xi_if1 0 1366 1362, 0, 0)) (x_T 1362 (x_L 1362 (0, xi_push (0, 1, 1) 1363, 0, 0)) (x_L 1363 (0, xi_goto 1367, 0, 0)))))) (x_T 1377 (x_T 1370 (x_T 1366 (x_L 1366 (0, xi_push (0, 0, 0) 1367, 0, 0)) (x_T 1367 (x_L 1367 (2, x_nof, 151, 4)) (x_L 1370 (0, xi_if2 0 2142 1373, 0, 0)))) (x_T 1375 (x_L 1375 (0, xi_load 1 2 1376, 0, 0)) (x_T 1376 (x_L 1376 (0, xi_load 0 2 1377, 0, 0)) (x_L 1377 (0, xi_load 3 0 1378, 0, 0))))) (x_T 1380 (x_T 1378 (x_L 1378 (0, xi_push (0, 1, 1) 1379, 0, 0)) (x_T 1379 (x_L 1379 (0, xi_bin xF_add 1380, 0, 0)) (x_L 1380 (0, xi_sld 1381, 0, 0)))) (x_T 1381 (x_L 1381 (0, xi_load 0 2 1382, 0, 0)) (x_T 1382 (x_L 1382 (0, xi_load 3 0 1383, 0, 0)) (x_L 1383 (0, xi_push (0, 2, 2) 1384, 0, 0)))))))
set_option maxRecDepth 20000 in
set_option maxHeartbeats 4000000 in
theorem tb_0_887_ok (K : xKx) (hK : x_KP K) (hS : ∀ R s A H V sc, K R s A H V sc → x_Scr R s A H V sc) : ∀ pc, x_EOq cls K xI m_0 pc (tb_0_887 pc) :=
  (x_Tok2
  (x_Tok2
  (x_Tok2
  (x_Tok2
  (x_Lok (x_st (I := xI) (xr_iconst (n := 2) (z := 2) (v := 2) (x_dk dl_0_8_ok 87 rfl) (by decide) (by decide))))
  (x_Lok (x_st (I := xI) (xr_iadd (x_dk dl_0_8_ok 88 rfl)))))
  (x_Tok2
  (x_Lok (x_st (I := xI) (xr_sld hS (x_dk dl_0_8_ok 89 rfl))))
  (x_Tok2
  (x_Lok (x_st (I := xI) (xr_aload_n (i := 0) (x_dk dl_0_8_ok 90 rfl))))
  (x_Lok (x_st (I := xI) (xr_iload_n (i := 3) (x_dk dl_0_8_ok 91 rfl)))))))
  (x_Tok2
  (x_Tok2
  (x_Lok (x_st (I := xI) (xr_iconst (n := 3) (z := 3) (v := 3) (x_dk dl_0_8_ok 92 rfl) (by decide) (by decide))))
  (x_Tok2
  (x_Lok (x_st (I := xI) (xr_iadd (x_dk dl_0_8_ok 93 rfl))))
  (x_Lok (x_st (I := xI) (xr_sld hS (x_dk dl_0_8_ok 94 rfl))))))
  (x_Tok2
  (x_Lok (x_st (I := xI) (xr_ifeq (off := 7) (tg := 1366) (x_dk dl_0_8_ok 95 rfl) (by decide))))
  (x_Tok2
  (x_Lok (x_st (I := xI) (xr_iconst (n := 1) (z := 1) (v := 1) (x_dk dl_0_8_ok 96 rfl) (by decide) (by decide))))
  (x_Lok (x_st (I := xI) (xr_goto (off := 4) (tg := 1367) (x_dk dl_0_8_ok 97 rfl) (by decide))))))))
  (x_Tok2
  (x_Tok2
  (x_Tok2
  (x_Lok (x_st (I := xI) (xr_iconst (n := 0) (z := 0) (v := 0) (x_dk dl_0_8_ok 98 rfl) (by decide) (by decide))))
  (x_Tok2
  (x_Lok (x_ca (I := xI) (q' := m_151) rfl (xr_callV (q' := m_151) (ix := 128) (n := 3) (in_t13 (List.mem_of_getElem? (i := 158) rfl) rfl) good_w (in_t1 (List.mem_of_getElem? (i := 14) rfl) rfl) (in_t13 (List.mem_of_getElem? (i := 155) rfl) rfl) (in_t13 (List.mem_of_getElem? (i := 156) rfl) rfl) (in_t13 (List.mem_of_getElem? (i := 157) rfl) rfl) (by decide +kernel) (by decide +kernel) (by decide +kernel) (x_dk dl_0_8_ok 99 rfl))))
  (x_Lok (x_st (I := xI) (xr_icmpeq (off := 772) (tg := 2142) (x_dk dl_0_9_ok 0 rfl) (by decide))))))
  (x_Tok2
  (x_Lok (x_st (I := xI) (xr_aload_n (i := 1) (x_dk dl_0_9_ok 1 rfl))))
  (x_Tok2
  (x_Lok (x_st (I := xI) (xr_aload_n (i := 0) (x_dk dl_0_9_ok 2 rfl))))
  (x_Lok (x_st (I := xI) (xr_iload_n (i := 3) (x_dk dl_0_9_ok 3 rfl)))))))
  (x_Tok2
  (x_Tok2
  (x_Lok (x_st (I := xI) (xr_iconst (n := 1) (z := 1) (v := 1) (x_dk dl_0_9_ok 4 rfl) (by decide) (by decide))))
  (x_Tok2
  (x_Lok (x_st (I := xI) (xr_iadd (x_dk dl_0_9_ok 5 rfl))))
  (x_Lok (x_st (I := xI) (xr_sld hS (x_dk dl_0_9_ok 6 rfl))))))
  (x_Tok2
  (x_Lok (x_st (I := xI) (xr_aload_n (i := 0) (x_dk dl_0_9_ok 7 rfl))))
  (x_Tok2
  (x_Lok (x_st (I := xI) (xr_iload_n (i := 3) (x_dk dl_0_9_ok 8 rfl))))
  (x_Lok (x_st (I := xI) (xr_iconst (n := 2) (z := 2) (v := 2) (x_dk dl_0_9_ok 9 rfl) (by decide) (by decide)))))))))
def tb_0_910 : Nat → xE := (x_T 1398 (x_T 1390 (x_T 1385 (x_T 1384 (x_L 1384 (0, xi_bin xF_add 1385, 0, 0)) (x_L 1385 (0, xi_sld 1386, 0, 0))) (x_T 1386 (x_L 1386 (0, xi_if1 0 1393 1389, 0, 0)) (x_T 1389 (x_L 1389 (0, xi_push (0, 1, 1) 1390, 0, 0)) (x_L 1390 (0, xi_goto 1394, 0, 0))))) (x_T 1395 (x_T 1393 (x_L 1393 (0, xi_push (0, 0, 0) 1394, 0, 0)) (x_T 1394 (x_L 1394 (0, xi_load 0 2 1395, 0, 0)) (x_L 1395 (0, xi_load 3 0 1396, 0, 0)))) (x_T 1396 (x_L 1396 (0, xi_push (0, 3, 3) 1397, 0, 0)) (x_T 1397 (x_L 1397 (0, xi_bin xF_add 1398, 0, 0)) (x_L 1398 (0, xi_sld 1399, 0, 0)))))) (x_T 1407 (x_T 1402 (x_T 1399 (x_L 1399 (0, xi_if1 0 1406 1402, 0, 0)) (x_L 1402 (0, xi_push (0, 1, 1) 1403, 0, 0))) (x_T 1403 (x_L 1403 (0, xi_goto 1407, 0, 0)) (x_T 1406 (x_L 1406 (0, xi_push (0, 0, 0) 1407, 0, 0)) (x_L 1407 (2, x_nof, 68, 4))))) (x_T 1412 (x_T 1410 (x_L 1410 (0, xi_load 2 2 1411, 0, 0)) (x_T 1411 (x_L 1411 (0, xi_load 0 2 1412, 0, 0)) (x_L 1412 (0, xi_load 3 0 1413, 0, 0)))) (x_T 1413 (x_L 1413 (0, xi_push (0, 1, 1) 1414, 0, 0)) (x_T 1414 (x_L 1414 (0, xi_bin xF_add 1415, 0, 0)) (x_L 1415 (0, xi_sld 1416, 0, 0)))))))
set_option maxRecDepth 20000 in
set_option maxHeartbeats 4000000 in
theorem tb_0_910_ok (K : xKx) (hK : x_KP K) (hS : ∀ R s A H V sc, K R s A H V sc → x_Scr R s A H V sc) : ∀ pc, x_EOq cls K xI m_0 pc (tb_0_910 pc) :=
  (x_Tok2
  (x_Tok2
  (x_Tok2
  (x_Tok2
  (x_Lok (x_st (I := xI) (xr_iadd (x_dk dl_0_9_ok 10 rfl))))
  (x_Lok (x_st (I := xI) (xr_sld hS (x_dk dl_0_9_ok 11 rfl)))))
  (x_Tok2
  (x_Lok (x_st (I := xI) (xr_ifeq (off := 7) (tg := 1393) (x_dk dl_0_9_ok 12 rfl) (by decide))))
  (x_Tok2
  (x_Lok (x_st (I := xI) (xr_iconst (n := 1) (z := 1) (v := 1) (x_dk dl_0_9_ok 13 rfl) (by decide) (by decide))))
  (x_Lok (x_st (I := xI) (xr_goto (off := 4) (tg := 1394) (x_dk dl_0_9_ok 14 rfl) (by decide)))))))
  (x_Tok2
  (x_Tok2
  (x_Lok (x_st (I := xI) (xr_iconst (n := 0) (z := 0) (v := 0) (x_dk dl_0_9_ok 15 rfl) (by decide) (by decide))))
  (x_Tok2
  (x_Lok (x_st (I := xI) (xr_aload_n (i := 0) (x_dk dl_0_9_ok 16 rfl))))
  (x_Lok (x_st (I := xI) (xr_iload_n (i := 3) (x_dk dl_0_9_ok 17 rfl))))))
  (x_Tok2
  (x_Lok (x_st (I := xI) (xr_iconst (n := 3) (z := 3) (v := 3) (x_dk dl_0_9_ok 18 rfl) (by decide) (by decide))))
  (x_Tok2
  (x_Lok (x_st (I := xI) (xr_iadd (x_dk dl_0_9_ok 19 rfl))))
  (x_Lok (x_st (I := xI) (xr_sld hS (x_dk dl_0_9_ok 20 rfl))))))))
  (x_Tok2
  (x_Tok2
  (x_Tok2
  (x_Lok (x_st (I := xI) (xr_ifeq (off := 7) (tg := 1406) (x_dk dl_0_9_ok 21 rfl) (by decide))))
  (x_Lok (x_st (I := xI) (xr_iconst (n := 1) (z := 1) (v := 1) (x_dk dl_0_9_ok 22 rfl) (by decide) (by decide)))))
  (x_Tok2
  (x_Lok (x_st (I := xI) (xr_goto (off := 4) (tg := 1407) (x_dk dl_0_9_ok 23 rfl) (by decide))))
  (x_Tok2
  (x_Lok (x_st (I := xI) (xr_iconst (n := 0) (z := 0) (v := 0) (x_dk dl_0_9_ok 24 rfl) (by decide) (by decide))))
  (x_Lok (x_ca (I := xI) (q' := m_68) rfl (xr_callV (q' := m_68) (ix := 129) (n := 3) (in_t8 (List.mem_of_getElem? (i := 166) rfl) rfl) good_w (in_t1 (List.mem_of_getElem? (i := 1) rfl) rfl) (in_t8 (List.mem_of_getElem? (i := 163) rfl) rfl) (in_t8 (List.mem_of_getElem? (i := 164) rfl) rfl) (in_t8 (List.mem_of_getElem? (i := 165) rfl) rfl) (by decide +kernel) (by decide +kernel) (by decide +kernel) (x_dk dl_0_9_ok 25 rfl)))))))
  (x_Tok2
  (x_Tok2
  (x_Lok (x_st (I := xI) (xr_aload_n (i := 2) (x_dk dl_0_9_ok 26 rfl))))
  (x_Tok2
  (x_Lok (x_st (I := xI) (xr_aload_n (i := 0) (x_dk dl_0_9_ok 27 rfl))))
  (x_Lok (x_st (I := xI) (xr_iload_n (i := 3) (x_dk dl_0_9_ok 28 rfl))))))
  (x_Tok2
  (x_Lok (x_st (I := xI) (xr_iconst (n := 1) (z := 1) (v := 1) (x_dk dl_0_9_ok 29 rfl) (by decide) (by decide))))
  (x_Tok2
  (x_Lok (x_st (I := xI) (xr_iadd (x_dk dl_0_9_ok 30 rfl))))
  (x_Lok (x_st (I := xI) (xr_sld hS (x_dk dl_0_9_ok 31 rfl)))))))))
def tb_0_932 : Nat → xE := (x_T 1430 (x_T 1420 (x_T 1417 (x_T 1416 (x_L 1416 (0, xi_load 0 2 1417, 0, 0)) (x_L 1417 (0, xi_load 3 0 1418, 0, 0))) (x_T 1418 (x_L 1418 (0, xi_push (0, 2, 2) 1419, 0, 0)) (x_T 1419 (x_L 1419 (0, xi_bin xF_add 1420, 0, 0)) (x_L 1420 (0, xi_sld 1421, 0, 0))))) (x_T 1425 (x_T 1421 (x_L 1421 (0, xi_if1 0 1428 1424, 0, 0)) (x_T 1424 (x_L 1424 (0, xi_push (0, 1, 1) 1425, 0, 0)) (x_L 1425 (0, xi_goto 1429, 0, 0)))) (x_T 1428 (x_L 1428 (0, xi_push (0, 0, 0) 1429, 0, 0)) (x_T 1429 (x_L 1429 (0, xi_load 0 2 1430, 0, 0)) (x_L 1430 (0, xi_load 3 0 1431, 0, 0)))))) (x_T 1438 (x_T 1433 (x_T 1431 (x_L 1431 (0, xi_push (0, 3, 3) 1432, 0, 0)) (x_T 1432 (x_L 1432 (0, xi_bin xF_add 1433, 0, 0)) (x_L 1433 (0, xi_sld 1434, 0, 0)))) (x_T 1434 (x_L 1434 (0, xi_if1 0 1441 1437, 0, 0)) (x_T 1437 (x_L 1437 (0, xi_push (0, 1, 1) 1438, 0, 0)) (x_L 1438 (0, xi_goto 1442, 0, 0))))) (x_T 1445 (x_T 1441 (x_L 1441 (0, xi_push (0, 0, 0) 1442, 0, 0)) (x_T 1442 (x_L 1442 (2, x_nof, 152, 4)) (x_L 1445 (0, xi_if2 0 2142 1448, 0, 0)))) (x_T 1450 (x_L 1450 (0, xi_load 1 2 1451, 0, 0)) (x_T 1451 (x_L 1451 (0, xi_load 0 2 1452, 0, 0)) (x_L 1452 (0, xi_load 3 0 1453, 0, 0)))))))
set_option maxRecDepth 20000 in
set_option maxHeartbeats 4000000 in
theorem tb_0_932_ok (K : xKx) (hK : x_KP K) (hS : ∀ R s A H V sc, K R s A H V sc → x_Scr R s A H V sc) : ∀ pc, x_EOq cls K xI m_0 pc (tb_0_932 pc) :=
  (x_Tok2
  (x_Tok2
  (x_Tok2
  (x_Tok2
  (x_Lok (x_st (I := xI) (xr_aload_n (i := 0) (x_dk dl_0_9_ok 32 rfl))))
  (x_Lok (x_st (I := xI) (xr_iload_n (i := 3) (x_dk dl_0_9_ok 33 rfl)))))
  (x_Tok2
  (x_Lok (x_st (I := xI) (xr_iconst (n := 2) (z := 2) (v := 2) (x_dk dl_0_9_ok 34 rfl) (by decide) (by decide))))
  (x_Tok2
  (x_Lok (x_st (I := xI) (xr_iadd (x_dk dl_0_9_ok 35 rfl))))
  (x_Lok (x_st (I := xI) (xr_sld hS (x_dk dl_0_9_ok 36 rfl)))))))
  (x_Tok2
  (x_Tok2
  (x_Lok (x_st (I := xI) (xr_ifeq (off := 7) (tg := 1428) (x_dk dl_0_9_ok 37 rfl) (by decide))))
  (x_Tok2
  (x_Lok (x_st (I := xI) (xr_iconst (n := 1) (z := 1) (v := 1) (x_dk dl_0_9_ok 38 rfl) (by decide) (by decide))))
  (x_Lok (x_st (I := xI) (xr_goto (off := 4) (tg := 1429) (x_dk dl_0_9_ok 39 rfl) (by decide))))))
  (x_Tok2
  (x_Lok (x_st (I := xI) (xr_iconst (n := 0) (z := 0) (v := 0) (x_dk dl_0_9_ok 40 rfl) (by decide) (by decide))))
  (x_Tok2
  (x_Lok (x_st (I := xI) (xr_aload_n (i := 0) (x_dk dl_0_9_ok 41 rfl))))
  (x_Lok (x_st (I := xI) (xr_iload_n (i := 3) (x_dk dl_0_9_ok 42 rfl))))))))
  (x_Tok2
  (x_Tok2
  (x_Tok2
  (x_Lok (x_st (I := xI) (xr_iconst (n := 3) (z := 3) (v := 3) (x_dk dl_0_9_ok 43 rfl) (by decide) (by decide))))
  (x_Tok2
  (x_Lok (x_st (I := xI) (xr_iadd (x_dk dl_0_9_ok 44 rfl))))
  (x_Lok (x_st (I := xI) (xr_sld hS (x_dk dl_0_9_ok 45 rfl))))))
  (x_Tok2
  (x_Lok (x_st (I := xI) (xr_ifeq (off := 7) (tg := 1441) (x_dk dl_0_9_ok 46 rfl) (by decide))))
  (x_Tok2
  (x_Lok (x_st (I := xI) (xr_iconst (n := 1) (z := 1) (v := 1) (x_dk dl_0_9_ok 47 rfl) (by decide) (by decide))))
  (x_Lok (x_st (I := xI) (xr_goto (off := 4) (tg := 1442) (x_dk dl_0_9_ok 48 rfl) (by decide)))))))
  (x_Tok2
  (x_Tok2
  (x_Lok (x_st (I := xI) (xr_iconst (n := 0) (z := 0) (v := 0) (x_dk dl_0_9_ok 49 rfl) (by decide) (by decide))))
  (x_Tok2
  (x_Lok (x_ca (I := xI) (q' := m_152) rfl (xr_callV (q' := m_152) (ix := 133) (n := 3) (in_t13 (List.mem_of_getElem? (i := 162) rfl) rfl) good_w (in_t1 (List.mem_of_getElem? (i := 14) rfl) rfl) (in_t13 (List.mem_of_getElem? (i := 159) rfl) rfl) (in_t13 (List.mem_of_getElem? (i := 160) rfl) rfl) (in_t13 (List.mem_of_getElem? (i := 161) rfl) rfl) (by decide +kernel) (by decide +kernel) (by decide +kernel) (x_dk dl_0_9_ok 50 rfl))))
  (x_Lok (x_st (I := xI) (xr_icmpeq (off := 697) (tg := 2142) (x_dk dl_0_9_ok 51 rfl) (by decide))))))
  (x_Tok2
  (x_Lok (x_st (I := xI) (xr_aload_n (i := 1) (x_dk dl_0_9_ok 52 rfl))))
  (x_Tok2
  (x_Lok (x_st (I := xI) (xr_aload_n (i := 0) (x_dk dl_0_9_ok 53 rfl))))
  (x_Lok (x_st (I := xI) (xr_iload_n (i := 3) (x_dk dl_0_9_ok 54 rfl)))))))))
def tb_0_955 : Nat → xE := (x_T 1465 (x_T 1459 (x_T 1454 (x_T 1453 (x_L 1453 (0, xi_push (0, 1, 1) 1454, 0, 0)) (x_L 1454 (0, xi_bin xF_add 1455, 0, 0))) (x_T 1455 (x_L 1455 (0, xi_sld 1456, 0, 0)) (x_T 1456 (x_L 1456 (2, x_nof, 69, 2)) (x_L 1459 (0, xi_load 2 2 1460, 0, 0))))) (x_T 1462 (x_T 1460 (x_L 1460 (0, xi_load 0 2 1461, 0, 0)) (x_T 1461 (x_L 1461 (0, xi_load 3 0 1462, 0, 0)) (x_L 1462 (0, xi_push (0, 1, 1) 1463, 0, 0)))) (x_T 1463 (x_L 1463 (0, xi_bin xF_add 1464, 0, 0)) (x_T 1464 (x_L 1464 (0, xi_sld 1465, 0, 0)) (x_L 1465 (2, x_nof, 153, 2)))))) (x_T 1477 (x_T 1474 (x_T 1468 (x_L 1468 (0, xi_if2 0 2142 1471, 0, 0)) (x_T 1473 (x_L 1473 (0, xi_load 1 2 1474, 0, 0)) (x_L 1474 (0, xi_load 0 2 1475, 0, 0)))) (x_T 1475 (x_L 1475 (0, xi_load 3 0 1476, 0, 0)) (x_T 1476 (x_L 1476 (0, xi_push (0, 1, 1) 1477, 0, 0)) (x_L 1477 (0, xi_bin xF_add 1478, 0, 0))))) (x_T 1482 (x_T 1478 (x_L 1478 (0, xi_sld 1479, 0, 0)) (x_T 1479 (x_L 1479 (2, x_nof, 70, 2)) (x_L 1482 (0, xi_load 2 2 1483, 0, 0)))) (x_T 1483 (x_L 1483 (0, xi_load 0 2 1484, 0, 0)) (x_T 1484 (x_L 1484 (0, xi_load 3 0 1485, 0, 0)) (x_L 1485 (0, xi_push (0, 1, 1) 1486, 0, 0)))))))
set_option maxRecDepth 20000 in
set_option maxHeartbeats 4000000 in
theorem tb_0_955_ok (K : xKx) (hK : x_KP K) (hS : ∀ R s A H V sc, K R s A H V sc → x_Scr R s A H V sc) : ∀ pc, x_EOq cls K xI m_0 pc (tb_0_955 pc) :=
  (x_Tok2
  (x_Tok2
  (x_Tok2
  (x_Tok2
  (x_Lok (x_st (I := xI) (xr_iconst (n := 1) (z := 1) (v := 1) (x_dk dl_0_9_ok 55 rfl) (by decide) (by decide))))
  (x_Lok (x_st (I := xI) (xr_iadd (x_dk dl_0_9_ok 56 rfl)))))
  (x_Tok2
  (x_Lok (x_st (I := xI) (xr_sld hS (x_dk dl_0_9_ok 57 rfl))))
  (x_Tok2
  (x_Lok (x_ca (I := xI) (q' := m_69) rfl (xr_callV (q' := m_69) (ix := 134) (n := 1) (in_t8 (List.mem_of_getElem? (i := 170) rfl) rfl) good_w (in_t1 (List.mem_of_getElem? (i := 1) rfl) rfl) (in_t8 (List.mem_of_getElem? (i := 167) rfl) rfl) (in_t8 (List.mem_of_getElem? (i := 168) rfl) rfl) (in_t8 (List.mem_of_getElem? (i := 169) rfl) rfl) (by decide +kernel) (by decide +kernel) (by decide +kernel) (x_dk dl_0_9_ok 58 rfl))))
  (x_Lok (x_st (I := xI) (xr_aload_n (i := 2) (x_dk dl_0_9_ok 59 rfl)))))))
  (x_Tok2
  (x_Tok2
  (x_Lok (x_st (I := xI) (xr_aload_n (i := 0) (x_dk dl_0_9_ok 60 rfl))))
  (x_Tok2
  (x_Lok (x_st (I := xI) (xr_iload_n (i := 3) (x_dk dl_0_9_ok 61 rfl))))
  (x_Lok (x_st (I := xI) (xr_iconst (n := 1) (z := 1) (v := 1) (x_dk dl_0_9_ok 62 rfl) (by decide) (by decide))))))
  (x_Tok2
  (x_Lok (x_st (I := xI) (xr_iadd (x_dk dl_0_9_ok 63 rfl))))
  (x_Tok2
  (x_Lok (x_st (I := xI) (xr_sld hS (x_dk dl_0_9_ok 64 rfl))))
  (x_Lok (x_ca (I := xI) (q' := m_153) rfl (xr_callV (q' := m_153) (ix := 137) (n := 1) (in_t13 (List.mem_of_getElem? (i := 166) rfl) rfl) good_w (in_t1 (List.mem_of_getElem? (i := 14) rfl) rfl) (in_t13 (List.mem_of_getElem? (i := 163) rfl) rfl) (in_t13 (List.mem_of_getElem? (i := 164) rfl) rfl) (in_t13 (List.mem_of_getElem? (i := 165) rfl) rfl) (by decide +kernel) (by decide +kernel) (by decide +kernel) (x_dk dl_0_9_ok 65 rfl))))))))
  (x_Tok2
  (x_Tok2
  (x_Tok2
  (x_Lok (x_st (I := xI) (xr_icmpeq (off := 674) (tg := 2142) (x_dk dl_0_9_ok 66 rfl) (by decide))))
  (x_Tok2
  (x_Lok (x_st (I := xI) (xr_aload_n (i := 1) (x_dk dl_0_9_ok 67 rfl))))
  (x_Lok (x_st (I := xI) (xr_aload_n (i := 0) (x_dk dl_0_9_ok 68 rfl))))))
  (x_Tok2
  (x_Lok (x_st (I := xI) (xr_iload_n (i := 3) (x_dk dl_0_9_ok 69 rfl))))
  (x_Tok2
  (x_Lok (x_st (I := xI) (xr_iconst (n := 1) (z := 1) (v := 1) (x_dk dl_0_9_ok 70 rfl) (by decide) (by decide))))
  (x_Lok (x_st (I := xI) (xr_iadd (x_dk dl_0_9_ok 71 rfl)))))))
  (x_Tok2
  (x_Tok2
  (x_Lok (x_st (I := xI) (xr_sld hS (x_dk dl_0_9_ok 72 rfl))))
  (x_Tok2
  (x_Lok (x_ca (I := xI) (q' := m_70) rfl (xr_callV (q' := m_70) (ix := 138) (n := 1) (in_t8 (List.mem_of_getElem? (i := 178) rfl) rfl) good_w (in_t1 (List.mem_of_getElem? (i := 1) rfl) rfl) (in_t8 (List.mem_of_getElem? (i := 175) rfl) rfl) (in_t8 (List.mem_of_getElem? (i := 176) rfl) rfl) (in_t8 (List.mem_of_getElem? (i := 177) rfl) rfl) (by decide +kernel) (by decide +kernel) (by decide +kernel) (x_dk dl_0_9_ok 73 rfl))))
  (x_Lok (x_st (I := xI) (xr_aload_n (i := 2) (x_dk dl_0_9_ok 74 rfl))))))
  (x_Tok2
  (x_Lok (x_st (I := xI) (xr_aload_n (i := 0) (x_dk dl_0_9_ok 75 rfl))))
  (x_Tok2
  (x_Lok (x_st (I := xI) (xr_iload_n (i := 3) (x_dk dl_0_9_ok 76 rfl))))
  (x_Lok (x_st (I := xI) (xr_iconst (n := 1) (z := 1) (v := 1) (x_dk dl_0_9_ok 77 rfl) (by decide) (by decide)))))))))
def tb_0_978 : Nat → xE := (x_T 1502 (x_T 1496 (x_T 1487 (x_T 1486 (x_L 1486 (0, xi_bin xF_add 1487, 0, 0)) (x_L 1487 (0, xi_sld 1488, 0, 0))) (x_T 1488 (x_L 1488 (2, x_nof, 154, 2)) (x_T 1491 (x_L 1491 (0, xi_if2 0 2142 1494, 0, 0)) (x_L 1496 (0, xi_load 1 2 1497, 0, 0))))) (x_T 1499 (x_T 1497 (x_L 1497 (0, xi_load 0 2 1498, 0, 0)) (x_T 1498 (x_L 1498 (0, xi_load 3 0 1499, 0, 0)) (x_L 1499 (0, xi_push (0, 1, 1) 1500, 0, 0)))) (x_T 1500 (x_L 1500 (0, xi_bin xF_add 1501, 0, 0)) (x_T 1501 (x_L 1501 (0, xi_sld 1502, 0, 0)) (x_L 1502 (2, x_nof, 71, 2)))))) (x_T 1510 (x_T 1507 (x_T 1505 (x_L 1505 (0, xi_load 2 2 1506, 0, 0)) (x_T 1506 (x_L 1506 (0, xi_load 0 2 1507, 0, 0)) (x_L 1507 (0, xi_load 3 0 1508, 0, 0)))) (x_T 1508 (x_L 1508 (0, xi_push (0, 1, 1) 1509, 0, 0)) (x_T 1509 (x_L 1509 (0, xi_bin xF_add 1510, 0, 0)) (x_L 1510 (0, xi_sld 1511, 0, 0))))) (x_T 1519 (x_T 1511 (x_L 1511 (2, x_nof, 155, 2)) (x_T 1514 (x_L 1514 (0, xi_if2 0 2142 1517, 0, 0)) (x_L 1519 (0, xi_load 1 2 1520, 0, 0)))) (x_T 1520 (x_L 1520 (0, xi_load 0 2 1521, 0, 0)) (x_T 1521 (x_L 1521 (0, xi_load 3 0 1522, 0, 0)) (x_L 1522 (0, xi_push (0, 1, 1) 1523, 0, 0)))))))
set_option maxRecDepth 20000 in
set_option maxHeartbeats 4000000 in
theorem tb_0_978_ok (K : xKx) (hK : x_KP K) (hS : ∀ R s A H V sc, K R s A H V sc → x_Scr R s A H V sc) : ∀ pc, x_EOq cls K xI m_0 pc (tb_0_978 pc) :=
  (x_Tok2
  (x_Tok2
  (x_Tok2
  (x_Tok2
  (x_Lok (x_st (I := xI) (xr_iadd (x_dk dl_0_9_ok 78 rfl))))
  (x_Lok (x_st (I := xI) (xr_sld hS (x_dk dl_0_9_ok 79 rfl)))))
  (x_Tok2
  (x_Lok (x_ca (I := xI) (q' := m_154) rfl (xr_callV (q' := m_154) (ix := 141) (n := 1) (in_t13 (List.mem_of_getElem? (i := 170) rfl) rfl) good_w (in_t1 (List.mem_of_getElem? (i := 14) rfl) rfl) (in_t13 (List.mem_of_getElem? (i := 167) rfl) rfl) (in_t13 (List.mem_of_getElem? (i := 168) rfl) rfl) (in_t13 (List.mem_of_getElem? (i := 169) rfl) rfl) (by decide +kernel) (by decide +kernel) (by decide +kernel) (x_dk dl_0_9_ok 80 rfl))))
  (x_Tok2
  (x_Lok (x_st (I := xI) (xr_icmpeq (off := 651) (tg := 2142) (x_dk dl_0_9_ok 81 rfl) (by decide))))
  (x_Lok (x_st (I := xI) (xr_aload_n (i := 1) (x_dk dl_0_9_ok 82 rfl)))))))
  (x_Tok2
  (x_Tok2
  (x_Lok (x_st (I := xI) (xr_aload_n (i := 0) (x_dk dl_0_9_ok 83 rfl))))
  (x_Tok2
  (x_Lok (x_st (I := xI) (xr_iload_n (i := 3) (x_dk dl_0_9_ok 84 rfl))))
  (x_Lok (x_st (I := xI) (xr_iconst (n := 1) (z := 1) (v := 1) (x_dk dl_0_9_ok 85 rfl) (by decide) (by decide))))))
  (x_Tok2
  (x_Lok (x_st (I := xI) (xr_iadd (x_dk dl_0_9_ok 86 rfl))))
  (x_Tok2
  (x_Lok (x_st (I := xI) (xr_sld hS (x_dk dl_0_9_ok 87 rfl))))
  (x_Lok (x_ca (I := xI) (q' := m_71) rfl (xr_callV (q' := m_71) (ix := 142) (n := 1) (in_t8 (List.mem_of_getElem? (i := 182) rfl) rfl) good_w (in_t1 (List.mem_of_getElem? (i := 1) rfl) rfl) (in_t8 (List.mem_of_getElem? (i := 179) rfl) rfl) (in_t8 (List.mem_of_getElem? (i := 180) rfl) rfl) (in_t8 (List.mem_of_getElem? (i := 181) rfl) rfl) (by decide +kernel) (by decide +kernel) (by decide +kernel) (x_dk dl_0_9_ok 88 rfl))))))))
  (x_Tok2
  (x_Tok2
  (x_Tok2
  (x_Lok (x_st (I := xI) (xr_aload_n (i := 2) (x_dk dl_0_9_ok 89 rfl))))
  (x_Tok2
  (x_Lok (x_st (I := xI) (xr_aload_n (i := 0) (x_dk dl_0_9_ok 90 rfl))))
  (x_Lok (x_st (I := xI) (xr_iload_n (i := 3) (x_dk dl_0_9_ok 91 rfl))))))
  (x_Tok2
  (x_Lok (x_st (I := xI) (xr_iconst (n := 1) (z := 1) (v := 1) (x_dk dl_0_9_ok 92 rfl) (by decide) (by decide))))
  (x_Tok2
  (x_Lok (x_st (I := xI) (xr_iadd (x_dk dl_0_9_ok 93 rfl))))
  (x_Lok (x_st (I := xI) (xr_sld hS (x_dk dl_0_9_ok 94 rfl)))))))
  (x_Tok2
  (x_Tok2
  (x_Lok (x_ca (I := xI) (q' := m_155) rfl (xr_callV (q' := m_155) (ix := 145) (n := 1) (in_t13 (List.mem_of_getElem? (i := 174) rfl) rfl) good_w (in_t1 (List.mem_of_getElem? (i := 14) rfl) rfl) (in_t13 (List.mem_of_getElem? (i := 171) rfl) rfl) (in_t13 (List.mem_of_getElem? (i := 172) rfl) rfl) (in_t13 (List.mem_of_getElem? (i := 173) rfl) rfl) (by decide +kernel) (by decide +kernel) (by decide +kernel) (x_dk dl_0_9_ok 95 rfl))))
  (x_Tok2
  (x_Lok (x_st (I := xI) (xr_icmpeq (off := 628) (tg := 2142) (x_dk dl_0_9_ok 96 rfl) (by decide))))
  (x_Lok (x_st (I := xI) (xr_aload_n (i := 1) (x_dk dl_0_9_ok 97 rfl))))))
  (x_Tok2
  (x_Lok (x_st (I := xI) (xr_aload_n (i := 0) (x_dk dl_0_9_ok 98 rfl))))
  (x_Tok2
  (x_Lok (x_st (I := xI) (xr_iload_n (i := 3) (x_dk dl_0_9_ok 99 rfl))))
  (x_Lok (x_st (I := xI) (xr_iconst (n := 1) (z := 1) (v := 1) (x_dk dl_0_10_ok 0 rfl) (by decide) (by decide)))))))))
def tb_0_1001 : Nat → xE := (x_T 1533 (x_T 1527 (x_T 1524 (x_T 1523 (x_L 1523 (0, xi_bin xF_add 1524, 0, 0)) (x_L 1524 (0, xi_sld 1525, 0, 0))) (x_T 1525 (x_L 1525 (0, xi_load 0 2 1526, 0, 0)) (x_T 1526 (x_L 1526 (0, xi_load 3 0 1527, 0, 0)) (x_L 1527 (0, xi_push (0, 2, 2) 1528, 0, 0))))) (x_T 1530 (x_T 1528 (x_L 1528 (0, xi_bin xF_add 1529, 0, 0)) (x_T 1529 (x_L 1529 (0, xi_sld 1530, 0, 0)) (x_L 1530 (0, xi_load 0 2 1531, 0, 0)))) (x_T 1531 (x_L 1531 (0, xi_load 3 0 1532, 0, 0)) (x_T 1532 (x_L 1532 (0, xi_push (0, 3, 3) 1533, 0, 0)) (x_L 1533 (0, xi_bin xF_add 1534, 0, 0)))))) (x_T 1540 (x_T 1535 (x_T 1534 (x_L 1534 (0, xi_sld 1535, 0, 0)) (x_L 1535 (2, x_nof, 72, 4))) (x_T 1538 (x_L 1538 (0, xi_load 2 2 1539, 0, 0)) (x_T 1539 (x_L 1539 (0, xi_load 0 2 1540, 0, 0)) (x_L 1540 (0, xi_load 3 0 1541, 0, 0))))) (x_T 1543 (x_T 1541 (x_L 1541 (0, xi_push (0, 1, 1) 1542, 0, 0)) (x_T 1542 (x_L 1542 (0, xi_bin xF_add 1543, 0, 0)) (x_L 1543 (0, xi_sld 1544, 0, 0)))) (x_T 1544 (x_L 1544 (0, xi_load 0 2 1545, 0, 0)) (x_T 1545 (x_L 1545 (0, xi_load 3 0 1546, 0, 0)) (x_L 1546 (0, xi_push (0, 2, 2) 1547, 0, 0)))))))
set_option maxRecDepth 20000 in
set_option maxHeartbeats 4000000 in
theorem tb_0_1001_ok (K : xKx) (hK : x_KP K) (hS : ∀ R s A H V sc, K R s A H V sc → x_Scr R s A H V sc) : ∀ pc, x_EOq cls K xI m_0 pc (tb_0_1001 pc) :=
  (x_Tok2
  (x_Tok2
  (x_Tok2
  (x_Tok2
  (x_Lok (x_st (I := xI) (xr_iadd (x_dk dl_0_10_ok 1 rfl))))
  (x_Lok (x_st (I := xI) (xr_sld hS (x_dk dl_0_10_ok 2 rfl)))))
  (x_Tok2
  (x_Lok (x_st (I := xI) (xr_aload_n (i := 0) (x_dk dl_0_10_ok 3 rfl))))
  (x_Tok2
  (x_Lok (x_st (I := xI) (xr_iload_n (i := 3) (x_dk dl_0_10_ok 4 rfl))))
  (x_Lok (x_st (I := xI) (xr_iconst (n := 2) (z := 2) (v := 2) (x_dk dl_0_10_ok 5 rfl) (by decide) (by decide)))))))
  (x_Tok2
  (x_Tok2
  (x_Lok (x_st (I := xI) (xr_iadd (x_dk dl_0_10_ok 6 rfl))))
  (x_Tok2
  (x_Lok (x_st (I := xI) (xr_sld hS (x_dk dl_0_10_ok 7 rfl))))
  (x_Lok (x_st (I := xI) (xr_aload_n (i := 0) (x_dk dl_0_10_ok 8 rfl))))))
  (x_Tok2
  (x_Lok (x_st (I := xI) (xr_iload_n (i := 3) (x_dk dl_0_10_ok 9 rfl))))
  (x_Tok2
  (x_Lok (x_st (I := xI) (xr_iconst (n := 3) (z := 3) (v := 3) (x_dk dl_0_10_ok 10 rfl) (by decide) (by decide))))
  (x_Lok (x_st (I := xI) (xr_iadd (x_dk dl_0_10_ok 11 rfl))))))))
  (x_Tok2
  (x_Tok2
  (x_Tok2
  (x_Lok (x_st (I := xI) (xr_sld hS (x_dk dl_0_10_ok 12 rfl))))
  (x_Lok (x_ca (I := xI) (q' := m_72) rfl (xr_callV (q' := m_72) (ix := 146) (n := 3) (in_t8 (List.mem_of_getElem? (i := 186) rfl) rfl) good_w (in_t1 (List.mem_of_getElem? (i := 1) rfl) rfl) (in_t8 (List.mem_of_getElem? (i := 183) rfl) rfl) (in_t8 (List.mem_of_getElem? (i := 184) rfl) rfl) (in_t8 (List.mem_of_getElem? (i := 185) rfl) rfl) (by decide +kernel) (by decide +kernel) (by decide +kernel) (x_dk dl_0_10_ok 13 rfl)))))
  (x_Tok2
  (x_Lok (x_st (I := xI) (xr_aload_n (i := 2) (x_dk dl_0_10_ok 14 rfl))))
  (x_Tok2
  (x_Lok (x_st (I := xI) (xr_aload_n (i := 0) (x_dk dl_0_10_ok 15 rfl))))
  (x_Lok (x_st (I := xI) (xr_iload_n (i := 3) (x_dk dl_0_10_ok 16 rfl)))))))
  (x_Tok2
  (x_Tok2
  (x_Lok (x_st (I := xI) (xr_iconst (n := 1) (z := 1) (v := 1) (x_dk dl_0_10_ok 17 rfl) (by decide) (by decide))))
  (x_Tok2
  (x_Lok (x_st (I := xI) (xr_iadd (x_dk dl_0_10_ok 18 rfl))))
  (x_Lok (x_st (I := xI) (xr_sld hS (x_dk dl_0_10_ok 19 rfl))))))
  (x_Tok2
  (x_Lok (x_st (I := xI) (xr_aload_n (i := 0) (x_dk dl_0_10_ok 20 rfl))))
  (x_Tok2
  (x_Lok (x_st (I := xI) (xr_iload_n (i := 3) (x_dk dl_0_10_ok 21 rfl))))
  (x_Lok (x_st (I := xI) (xr_iconst (n := 2) (z := 2) (v := 2) (x_dk dl_0_10_ok 22 rfl) (by decide) (by decide)))))))))
def tb_0_1023 : Nat → xE := (x_T 1563 (x_T 1551 (x_T 1548 (x_T 1547 (x_L 1547 (0, xi_bin xF_add 1548, 0, 0)) (x_L 1548 (0, xi_sld 1549, 0, 0))) (x_T 1549 (x_L 1549 (0, xi_load 0 2 1550, 0, 0)) (x_T 1550 (x_L 1550 (0, xi_load 3 0 1551, 0, 0)) (x_L 1551 (0, xi_push (0, 3, 3) 1552, 0, 0))))) (x_T 1554 (x_T 1552 (x_L 1552 (0, xi_bin xF_add 1553, 0, 0)) (x_T 1553 (x_L 1553 (0, xi_sld 1554, 0, 0)) (x_L 1554 (2, x_nof, 156, 4)))) (x_T 1557 (x_L 1557 (0, xi_if2 0 2142 1560, 0, 0)) (x_T 1562 (x_L 1562 (0, xi_load 1 2 1563, 0, 0)) (x_L 1563 (0, xi_load 0 2 1564, 0, 0)))))) (x_T 1569 (x_T 1566 (x_T 1564 (x_L 1564 (0, xi_load 3 0 1565, 0, 0)) (x_T 1565 (x_L 1565 (0, xi_push (0, 1, 1) 1566, 0, 0)) (x_L 1566 (0, xi_bin xF_add 1567, 0, 0)))) (x_T 1567 (x_L 1567 (0, xi_sld 1568, 0, 0)) (x_T 1568 (x_L 1568 (0, xi_load 0 2 1569, 0, 0)) (x_L 1569 (0, xi_load 3 0 1570, 0, 0))))) (x_T 1572 (x_T 1570 (x_L 1570 (0, xi_push (0, 2, 2) 1571, 0, 0)) (x_T 1571 (x_L 1571 (0, xi_bin xF_add 1572, 0, 0)) (x_L 1572 (0, xi_sld 1573, 0, 0)))) (x_T 1573 (x_L 1573 (2, x_nof, 73, 3)) (x_T 1576 (x_L 1576 (0, xi_load 2 2 1577, 0, 0)) (x_L 1577 (0, xi_load 0 2 1578, 0, 0)))))))
set_option maxRecDepth 20000 in
set_option maxHeartbeats 4000000 in
theorem tb_0_1023_ok (K : xKx) (hK : x_KP K) (hS : ∀ R s A H V sc, K R s A H V sc → x_Scr R s A H V sc) : ∀ pc, x_EOq cls K xI m_0 pc (tb_0_1023 pc) :=
  (x_Tok2
  (x_Tok2
  (x_Tok2
  (x_Tok2
  (x_Lok (x_st (I := xI) (xr_iadd (x_dk dl_0_10_ok 23 rfl))))
  (x_Lok (x_st (I := xI) (xr_sld hS (x_dk dl_0_10_ok 24 rfl)))))
  (x_Tok2
  (x_Lok (x_st (I := xI) (xr_aload_n (i := 0) (x_dk dl_0_10_ok 25 rfl))))
  (x_Tok2
  (x_Lok (x_st (I := xI) (xr_iload_n (i := 3) (x_dk dl_0_10_ok 26 rfl))))
  (x_Lok (x_st (I := xI) (xr_iconst (n := 3) (z := 3) (v := 3) (x_dk dl_0_10_ok 27 rfl) (by decide) (by decide)))))))
  (x_Tok2
  (x_Tok2
  (x_Lok (x_st (I := xI) (xr_iadd (x_dk dl_0_10_ok 28 rfl))))
  (x_Tok2
  (x_Lok (x_st (I := xI) (xr_sld hS (x_dk dl_0_10_ok 29 rfl))))
  (x_Lok (x_ca (I := xI) (q' := m_156) rfl (xr_callV (q' := m_156) (ix := 149) (n := 3) (in_t13 (List.mem_of_getElem? (i := 178) rfl) rfl) good_w (in_t1 (List.mem_of_getElem? (i := 14) rfl) rfl) (in_t13 (List.mem_of_getElem? (i := 175) rfl) rfl) (in_t13 (List.mem_of_getElem? (i := 176) rfl) rfl) (in_t13 (List.mem_of_getElem? (i := 177) rfl) rfl) (by decide +kernel) (by decide +kernel) (by decide +kernel) (x_dk dl_0_10_ok 30 rfl))))))
  (x_Tok2
  (x_Lok (x_st (I := xI) (xr_icmpeq (off := 585) (tg := 2142) (x_dk dl_0_10_ok 31 rfl) (by decide))))
  (x_Tok2
  (x_Lok (x_st (I := xI) (xr_aload_n (i := 1) (x_dk dl_0_10_ok 32 rfl))))
  (x_Lok (x_st (I := xI) (xr_aload_n (i := 0) (x_dk dl_0_10_ok 33 rfl))))))))
  (x_Tok2
  (x_Tok2
  (x_Tok2
  (x_Lok (x_st (I := xI) (xr_iload_n (i := 3) (x_dk dl_0_10_ok 34 rfl))))
  (x_Tok2
  (x_Lok (x_st (I := xI) (xr_iconst (n := 1) (z := 1) (v := 1) (x_dk dl_0_10_ok 35 rfl) (by decide) (by decide))))
  (x_Lok (x_st (I := xI) (xr_iadd (x_dk dl_0_10_ok 36 rfl))))))
  (x_Tok2
  (x_Lok (x_st (I := xI) (xr_sld hS (x_dk dl_0_10_ok 37 rfl))))
  (x_Tok2
  (x_Lok (x_st (I := xI) (xr_aload_n (i := 0) (x_dk dl_0_10_ok 38 rfl))))
  (x_Lok (x_st (I := xI) (xr_iload_n (i := 3) (x_dk dl_0_10_ok 39 rfl)))))))
  (x_Tok2
  (x_Tok2
  (x_Lok (x_st (I := xI) (xr_iconst (n := 2) (z := 2) (v := 2) (x_dk dl_0_10_ok 40 rfl) (by decide) (by decide))))
  (x_Tok2
  (x_Lok (x_st (I := xI) (xr_iadd (x_dk dl_0_10_ok 41 rfl))))
  (x_Lok (x_st (I := xI) (xr_sld hS (x_dk dl_0_10_ok 42 rfl))))))
  (x_Tok2
  (x_Lok (x_ca (I := xI) (q' := m_73) rfl (xr_callV (q' := m_73) (ix := 150) (n := 2) (in_t8 (List.mem_of_getElem? (i := 191) rfl) rfl) good_w (in_t1 (List.mem_of_getElem? (i := 1) rfl) rfl) (in_t8 (List.mem_of_getElem? (i := 188) rfl) rfl) (in_t8 (List.mem_of_getElem? (i := 189) rfl) rfl) (in_t8 (List.mem_of_getElem? (i := 190) rfl) rfl) (by decide +kernel) (by decide +kernel) (by decide +kernel) (x_dk dl_0_10_ok 43 rfl))))
  (x_Tok2
  (x_Lok (x_st (I := xI) (xr_aload_n (i := 2) (x_dk dl_0_10_ok 44 rfl))))
  (x_Lok (x_st (I := xI) (xr_aload_n (i := 0) (x_dk dl_0_10_ok 45 rfl)))))))))
def tb_0_1046 : Nat → xE := (x_T 1590 (x_T 1582 (x_T 1579 (x_T 1578 (x_L 1578 (0, xi_load 3 0 1579, 0, 0)) (x_L 1579 (0, xi_push (0, 1, 1) 1580, 0, 0))) (x_T 1580 (x_L 1580 (0, xi_bin xF_add 1581, 0, 0)) (x_T 1581 (x_L 1581 (0, xi_sld 1582, 0, 0)) (x_L 1582 (0, xi_load 0 2 1583, 0, 0))))) (x_T 1585 (x_T 1583 (x_L 1583 (0, xi_load 3 0 1584, 0, 0)) (x_T 1584 (x_L 1584 (0, xi_push (0, 2, 2) 1585, 0, 0)) (x_L 1585 (0, xi_bin xF_add 1586, 0, 0)))) (x_T 1586 (x_L 1586 (0, xi_sld 1587, 0, 0)) (x_T 1587 (x_L 1587 (2, x_nof, 157, 3)) (x_L 1590 (0, xi_if2 0 2142 1593, 0, 0)))))) (x_T 1600 (x_T 1597 (x_T 1595 (x_L 1595 (0, xi_load 1 2 1596, 0, 0)) (x_T 1596 (x_L 1596 (0, xi_load 0 2 1597, 0, 0)) (x_L 1597 (0, xi_load 3 0 1598, 0, 0)))) (x_T 1598 (x_L 1598 (0, xi_push (0, 1, 1) 1599, 0, 0)) (x_T 1599 (x_L 1599 (0, xi_bin xF_add 1600, 0, 0)) (x_L 1600 (0, xi_sld 1601, 0, 0))))) (x_T 1603 (x_T 1601 (x_L 1601 (0, xi_load 0 2 1602, 0, 0)) (x_T 1602 (x_L 1602 (0, xi_load 3 0 1603, 0, 0)) (x_L 1603 (0, xi_push (0, 2, 2) 1604, 0, 0)))) (x_T 1604 (x_L 1604 (0, xi_bin xF_add 1605, 0, 0)) (x_T 1605 (x_L 1605 (0, xi_sld 1606, 0, 0)) (x_L 1606 (0, xi_load 0 2 1607, 0, 0)))))))
set_option maxRecDepth 20000 in
set_option maxHeartbeats 4000000 in
theorem tb_0_1046_ok (K : xKx) (hK : x_KP K) (hS : ∀ R s A H V sc, K R s A H V sc → x_Scr R s A H V sc) : ∀ pc, x_EOq cls K xI m_0 pc (tb_0_1046 pc) :=
  (x_Tok2
  (x_Tok2
  (x_Tok2
  (x_Tok2
  (x_Lok (x_st (I := xI) (xr_iload_n (i := 3) (x_dk dl_0_10_ok 46 rfl))))
  (x_Lok (x_st (I := xI) (xr_iconst (n := 1) (z := 1) (v := 1) (x_dk dl_0_10_ok 47 rfl) (by decide) (by decide)))))
  (x_Tok2
  (x_Lok (x_st (I := xI) (xr_iadd (x_dk dl_0_10_ok 48 rfl))))
  (x_Tok2
  (x_Lok (x_st (I := xI) (xr_sld hS (x_dk dl_0_10_ok 49 rfl))))
  (x_Lok (x_st (I := xI) (xr_aload_n (i := 0) (x_dk dl_0_10_ok 50 rfl)))))))
  (x_Tok2
  (x_Tok2
  (x_Lok (x_st (I := xI) (xr_iload_n (i := 3) (x_dk dl_0_10_ok 51 rfl))))
  (x_Tok2
  (x_Lok (x_st (I := xI) (xr_iconst (n := 2) (z := 2) (v := 2) (x_dk dl_0_10_ok 52 rfl) (by decide) (by decide))))
  (x_Lok (x_st (I := xI) (xr_iadd (x_dk dl_0_10_ok 53 rfl))))))
  (x_Tok2
  (x_Lok (x_st (I := xI) (xr_sld hS (x_dk dl_0_10_ok 54 rfl))))
  (x_Tok2
  (x_Lok (x_ca (I := xI) (q' := m_157) rfl (xr_callV (q' := m_157) (ix := 153) (n := 2) (in_t13 (List.mem_of_getElem? (i := 182) rfl) rfl) good_w (in_t1 (List.mem_of_getElem? (i := 14) rfl) rfl) (in_t13 (List.mem_of_getElem? (i := 179) rfl) rfl) (in_t13 (List.mem_of_getElem? (i := 180) rfl) rfl) (in_t13 (List.mem_of_getElem? (i := 181) rfl) rfl) (by decide +kernel) (by decide +kernel) (by decide +kernel) (x_dk dl_0_10_ok 55 rfl))))
  (x_Lok (x_st (I := xI) (xr_icmpeq (off := 552) (tg := 2142) (x_dk dl_0_10_ok 56 rfl) (by decide))))))))
  (x_Tok2
  (x_Tok2
  (x_Tok2
  (x_Lok (x_st (I := xI) (xr_aload_n (i := 1) (x_dk dl_0_10_ok 57 rfl))))
  (x_Tok2
  (x_Lok (x_st (I := xI) (xr_aload_n (i := 0) (x_dk dl_0_10_ok 58 rfl))))
  (x_Lok (x_st (I := xI) (xr_iload_n (i := 3) (x_dk dl_0_10_ok 59 rfl))))))
  (x_Tok2
  (x_Lok (x_st (I := xI) (xr_iconst (n := 1) (z := 1) (v := 1) (x_dk dl_0_10_ok 60 rfl) (by decide) (by decide))))
  (x_Tok2
  (x_Lok (x_st (I := xI) (xr_iadd (x_dk dl_0_10_ok 61 rfl))))
  (x_Lok (x_st (I := xI) (xr_sld hS (x_dk dl_0_10_ok 62 rfl)))))))
  (x_Tok2
  (x_Tok2
  (x_Lok (x_st (I := xI) (xr_aload_n (i := 0) (x_dk dl_0_10_ok 63 rfl))))
  (x_Tok2
  (x_Lok (x_st (I := xI) (xr_iload_n (i := 3) (x_dk dl_0_10_ok 64 rfl))))
  (x_Lok (x_st (I := xI) (xr_iconst (n := 2) (z := 2) (v := 2) (x_dk dl_0_10_ok 65 rfl) (by decide) (by decide))))))
  (x_Tok2
  (x_Lok (x_st (I := xI) (xr_iadd (x_dk dl_0_10_ok 66 rfl))))
  (x_Tok2
  (x_Lok (x_st (I := xI) (xr_sld hS (x_dk dl_0_10_ok 67 rfl))))
  (x_Lok (x_st (I := xI) (xr_aload_n (i := 0) (x_dk dl_0_10_ok 68 rfl)))))))))
def tb_0_1069 : Nat → xE := (x_T 1619 (x_T 1611 (x_T 1608 (x_T 1607 (x_L 1607 (0, xi_load 3 0 1608, 0, 0)) (x_L 1608 (0, xi_push (0, 3, 3) 1609, 0, 0))) (x_T 1609 (x_L 1609 (0, xi_bin xF_add 1610, 0, 0)) (x_T 1610 (x_L 1610 (0, xi_sld 1611, 0, 0)) (x_L 1611 (2, x_nof, 74, 4))))) (x_T 1616 (x_T 1614 (x_L 1614 (0, xi_load 2 2 1615, 0, 0)) (x_T 1615 (x_L 1615 (0, xi_load 0 2 1616, 0, 0)) (x_L 1616 (0, xi_load 3 0 1617, 0, 0)))) (x_T 1617 (x_L 1617 (0, xi_push (0, 1, 1) 1618, 0, 0)) (x_T 1618 (x_L 1618 (0, xi_bin xF_add 1619, 0, 0)) (x_L 1619 (0, xi_sld 1620, 0, 0)))))) (x_T 1625 (x_T 1622 (x_T 1620 (x_L 1620 (0, xi_load 0 2 1621, 0, 0)) (x_T 1621 (x_L 1621 (0, xi_load 3 0 1622, 0, 0)) (x_L 1622 (0, xi_push (0, 2, 2) 1623, 0, 0)))) (x_T 1623 (x_L 1623 (0, xi_bin xF_add 1624, 0, 0)) (x_T 1624 (x_L 1624 (0, xi_sld 1625, 0, 0)) (x_L 1625 (0, xi_load 0 2 1626, 0, 0))))) (x_T 1628 (x_T 1626 (x_L 1626 (0, xi_load 3 0 1627, 0, 0)) (x_T 1627 (x_L 1627 (0, xi_push (0, 3, 3) 1628, 0, 0)) (x_L 1628 (0, xi_bin xF_add 1629, 0, 0)))) (x_T 1629 (x_L 1629 (0, xi_sld 1630, 0, 0)) (x_T 1630 (x_L 1630 (2, x_nof, 145, 4)) (x_L 1633 (0, xi_if2 0 2142 1636, 0, 0)))))))
set_option maxRecDepth 20000 in
set_option maxHeartbeats 4000000 in
theorem tb_0_1069_ok (K : xKx) (hK : x_KP K) (hS : ∀ R s A H V sc, K R s A H V sc → x_Scr R s A H V sc) : ∀ pc, x_EOq cls K xI m_0 pc (tb_0_1069 pc) :=
  (x_Tok2
  (x_Tok2
  (x_Tok2
  (x_Tok2
  (x_Lok (x_st (I := xI) (xr_iload_n (i := 3) (x_dk dl_0_10_ok 69 rfl))))
  (x_Lok (x_st (I := xI) (xr_iconst (n := 3) (z := 3) (v := 3) (x_dk dl_0_10_ok 70 rfl) (by decide) (by decide)))))
  (x_Tok2
  (x_Lok (x_st (I := xI) (xr_iadd (x_dk dl_0_10_ok 71 rfl))))
  (x_Tok2
  (x_Lok (x_st (I := xI) (xr_sld hS (x_dk dl_0_10_ok 72 rfl))))
  (x_Lok (x_ca (I := xI) (q' := m_74) rfl (xr_callV (q' := m_74) (ix := 154) (n := 3) (in_t8 (List.mem_of_getElem? (i := 195) rfl) rfl) good_w (in_t1 (List.mem_of_getElem? (i := 1) rfl) rfl) (in_t8 (List.mem_of_getElem? (i := 192) rfl) rfl) (in_t8 (List.mem_of_getElem? (i := 193) rfl) rfl) (in_t8 (List.mem_of_getElem? (i := 194) rfl) rfl) (by decide +kernel) (by decide +kernel) (by decide +kernel) (x_dk dl_0_10_ok 73 rfl)))))))
  (x_Tok2
  (x_Tok2
  (x_Lok (x_st (I := xI) (xr_aload_n (i := 2) (x_dk dl_0_10_ok 74 rfl))))
  (x_Tok2
  (x_Lok (x_st (I := xI) (xr_aload_n (i := 0) (x_dk dl_0_10_ok 75 rfl))))
  (x_Lok (x_st (I := xI) (xr_iload_n (i := 3) (x_dk dl_0_10_ok 76 rfl))))))
  (x_Tok2
  (x_Lok (x_st (I := xI) (xr_iconst (n := 1) (z := 1) (v := 1) (x_dk dl_0_10_ok 77 rfl) (by decide) (by decide))))
  (x_Tok2
  (x_Lok (x_st (I := xI) (xr_iadd (x_dk dl_0_10_ok 78 rfl))))
  (x_Lok (x_st (I := xI) (xr_sld hS (x_dk dl_0_10_ok 79 rfl))))))))
  (x_Tok2
  (x_Tok2
  (x_Tok2
  (x_Lok (x_st (I := xI) (xr_aload_n (i := 0) (x_dk dl_0_10_ok 80 rfl))))
  (x_Tok2
  (x_Lok (x_st (I := xI) (xr_iload_n (i := 3) (x_dk dl_0_10_ok 81 rfl))))
  (x_Lok (x_st (I := xI) (xr_iconst (n := 2) (z := 2) (v := 2) (x_dk dl_0_10_ok 82 rfl) (by decide) (by decide))))))
  (x_Tok2
  (x_Lok (x_st (I := xI) (xr_iadd (x_dk dl_0_10_ok 83 rfl))))
  (x_Tok2
  (x_Lok (x_st (I := xI) (xr_sld hS (x_dk dl_0_10_ok 84 rfl))))
  (x_Lok (x_st (I := xI) (xr_aload_n (i := 0) (x_dk dl_0_10_ok 85 rfl)))))))
  (x_Tok2
  (x_Tok2
  (x_Lok (x_st (I := xI) (xr_iload_n (i := 3) (x_dk dl_0_10_ok 86 rfl))))
  (x_Tok2
  (x_Lok (x_st (I := xI) (xr_iconst (n := 3) (z := 3) (v := 3) (x_dk dl_0_10_ok 87 rfl) (by decide) (by decide))))
  (x_Lok (x_st (I := xI) (xr_iadd (x_dk dl_0_10_ok 88 rfl))))))
  (x_Tok2
  (x_Lok (x_st (I := xI) (xr_sld hS (x_dk dl_0_10_ok 89 rfl))))
  (x_Tok2
  (x_Lok (x_ca (I := xI) (q' := m_145) rfl (xr_callV (q' := m_145) (ix := 157) (n := 3) (in_t12 (List.mem_of_getElem? (i := 116) rfl) rfl) good_w (in_t1 (List.mem_of_getElem? (i := 14) rfl) rfl) (in_t12 (List.mem_of_getElem? (i := 113) rfl) rfl) (in_t12 (List.mem_of_getElem? (i := 114) rfl) rfl) (in_t12 (List.mem_of_getElem? (i := 115) rfl) rfl) (by decide +kernel) (by decide +kernel) (by decide +kernel) (x_dk dl_0_10_ok 90 rfl))))
  (x_Lok (x_st (I := xI) (xr_icmpeq (off := 509) (tg := 2142) (x_dk dl_0_10_ok 91 rfl) (by decide)))))))))
def tb_0_1092 : Nat → xE := (x_T 1650 (x_T 1642 (x_T 1639 (x_T 1638 (x_L 1638 (0, xi_load 1 2 1639, 0, 0)) (x_L 1639 (0, xi_load 0 2 1640, 0, 0))) (x_T 1640 (x_L 1640 (0, xi_load 3 0 1641, 0, 0)) (x_T 1641 (x_L 1641 (0, xi_push (0, 1, 1) 1642, 0, 0)) (x_L 1642 (0, xi_bin xF_add 1643, 0, 0))))) (x_T 1647 (x_T 1643 (x_L 1643 (0, xi_sld 1644, 0, 0)) (x_T 1644 (x_L 1644 (2, x_nof, 75, 2)) (x_L 1647 (0, xi_load 2 2 1648, 0, 0)))) (x_T 1648 (x_L 1648 (0, xi_load 0 2 1649, 0, 0)) (x_T 1649 (x_L 1649 (0, xi_load 3 0 1650, 0, 0)) (x_L 1650 (0, xi_push (0, 1, 1) 1651, 0, 0)))))) (x_T 1661 (x_T 1652 (x_T 1651 (x_L 1651 (0, xi_bin xF_add 1652, 0, 0)) (x_L 1652 (0, xi_sld 1653, 0, 0))) (x_T 1653 (x_L 1653 (2, x_nof, 146, 2)) (x_T 1656 (x_L 1656 (0, xi_if2 0 2142 1659, 0, 0)) (x_L 1661 (0, xi_load 1 2 1662, 0, 0))))) (x_T 1664 (x_T 1662 (x_L 1662 (0, xi_load 0 2 1663, 0, 0)) (x_T 1663 (x_L 1663 (0, xi_load 3 0 1664, 0, 0)) (x_L 1664 (0, xi_push (0, 1, 1) 1665, 0, 0)))) (x_T 1665 (x_L 1665 (0, xi_bin xF_add 1666, 0, 0)) (x_T 1666 (x_L 1666 (0, xi_sld 1667, 0, 0)) (x_L 1667 (2, x_nof, 76, 2)))))))
set_option maxRecDepth 20000 in
set_option maxHeartbeats 4000000 in
theorem tb_0_1092_ok (K : xKx) (hK : x_KP K) (hS : ∀ R s A H V sc, K R s A H V sc → x_Scr R s A H V sc) : ∀ pc, x_EOq cls K xI m_0 pc (tb_0_1092 pc) :=
  (x_Tok2
  (x_Tok2
  (x_Tok2
  (x_Tok2
  (x_Lok (x_st (I := xI) (xr_aload_n (i := 1) (x_dk dl_0_10_ok 92 rfl))))
  (x_Lok (x_st (I := xI) (xr_aload_n (i := 0) (x_dk dl_0_10_ok 93 rfl)))))
  (x_Tok2
  (x_Lok (x_st (I := xI) (xr_iload_n (i := 3) (x_dk dl_0_10_ok 94 rfl))))
  (x_Tok2
  (x_Lok (x_st (I := xI) (xr_iconst (n := 1) (z := 1) (v := 1) (x_dk dl_0_10_ok 95 rfl) (by decide) (by decide))))
  (x_Lok (x_st (I := xI) (xr_iadd (x_dk dl_0_10_ok 96 rfl)))))))
  (x_Tok2
  (x_Tok2
  (x_Lok (x_st (I := xI) (xr_sld hS (x_dk dl_0_10_ok 97 rfl))))
  (x_Tok2
  (x_Lok (x_ca (I := xI) (q' := m_75) rfl (xr_callV (q' := m_75) (ix := 158) (n := 1) (in_t8 (List.mem_of_getElem? (i := 239) rfl) rfl) good_w (in_t1 (List.mem_of_getElem? (i := 1) rfl) rfl) (in_t8 (List.mem_of_getElem? (i := 236) rfl) rfl) (in_t8 (List.mem_of_getElem? (i := 237) rfl) rfl) (in_t8 (List.mem_of_getElem? (i := 238) rfl) rfl) (by decide +kernel) (by decide +kernel) (by decide +kernel) (x_dk dl_0_10_ok 98 rfl))))
  (x_Lok (x_st (I := xI) (xr_aload_n (i := 2) (x_dk dl_0_10_ok 99 rfl))))))
  (x_Tok2
  (x_Lok (x_st (I := xI) (xr_aload_n (i := 0) (x_dk dl_0_11_ok 0 rfl))))
  (x_Tok2
  (x_Lok (x_st (I := xI) (xr_iload_n (i := 3) (x_dk dl_0_11_ok 1 rfl))))
  (x_Lok (x_st (I := xI) (xr_iconst (n := 1) (z := 1) (v := 1) (x_dk dl_0_11_ok 2 rfl) (by decide) (by decide))))))))
  (x_Tok2
  (x_Tok2
  (x_Tok2
  (x_Lok (x_st (I := xI) (xr_iadd (x_dk dl_0_11_ok 3 rfl))))
  (x_Lok (x_st (I := xI) (xr_sld hS (x_dk dl_0_11_ok 4 rfl)))))
  (x_Tok2
  (x_Lok (x_ca (I := xI) (q' := m_146) rfl (xr_callV (q' := m_146) (ix := 161) (n := 1) (in_t12 (List.mem_of_getElem? (i := 173) rfl) rfl) good_w (in_t1 (List.mem_of_getElem? (i := 14) rfl) rfl) (in_t12 (List.mem_of_getElem? (i := 170) rfl) rfl) (in_t12 (List.mem_of_getElem? (i := 171) rfl) rfl) (in_t12 (List.mem_of_getElem? (i := 172) rfl) rfl) (by decide +kernel) (by decide +kernel) (by decide +kernel) (x_dk dl_0_11_ok 5 rfl))))
  (x_Tok2
  (x_Lok (x_st (I := xI) (xr_icmpeq (off := 486) (tg := 2142) (x_dk dl_0_11_ok 6 rfl) (by decide))))
  (x_Lok (x_st (I := xI) (xr_aload_n (i := 1) (x_dk dl_0_11_ok 7 rfl)))))))
  (x_Tok2
  (x_Tok2
  (x_Lok (x_st (I := xI) (xr_aload_n (i := 0) (x_dk dl_0_11_ok 8 rfl))))
  (x_Tok2
  (x_Lok (x_st (I := xI) (xr_iload_n (i := 3) (x_dk dl_0_11_ok 9 rfl))))
  (x_Lok (x_st (I := xI) (xr_iconst (n := 1) (z := 1) (v := 1) (x_dk dl_0_11_ok 10 rfl) (by decide) (by decide))))))
  (x_Tok2
  (x_Lok (x_st (I := xI) (xr_iadd (x_dk dl_0_11_ok 11 rfl))))
  (x_Tok2
  (x_Lok (x_st (I := xI) (xr_sld hS (x_dk dl_0_11_ok 12 rfl))))
  (x_Lok (x_ca (I := xI) (q' := m_76) rfl (xr_callV (q' := m_76) (ix := 162) (n := 1) (in_t9 (List.mem_of_getElem? (i := 7) rfl) rfl) good_w (in_t1 (List.mem_of_getElem? (i := 1) rfl) rfl) (in_t9 (List.mem_of_getElem? (i := 4) rfl) rfl) (in_t9 (List.mem_of_getElem? (i := 5) rfl) rfl) (in_t9 (List.mem_of_getElem? (i := 6) rfl) rfl) (by decide +kernel) (by decide +kernel) (by decide +kernel) (x_dk dl_0_11_ok 13 rfl)))))))))
def tb_0_1114 : Nat → xE := (x_T 1688 (x_T 1674 (x_T 1671 (x_T 1670 (x_L 1670 (0, xi_load 2 2 1671, 0, 0)) (x_L 1671 (0, xi_load 0 2 1672, 0, 0))) (x_T 1672 (x_L 1672 (0, xi_load 3 0 1673, 0, 0)) (x_T 1673 (x_L 1673 (0, xi_push (0, 1, 1) 1674, 0, 0)) (x_L 1674 (0, xi_bin xF_add 1675, 0, 0))))) (x_T 1679 (x_T 1675 (x_L 1675 (0, xi_sld 1676, 0, 0)) (x_T 1676 (x_L 1676 (2, x_nof, 158, 2)) (x_L 1679 (0, xi_if2 0 2142 1682, 0, 0)))) (x_T 1684 (x_L 1684 (0, xi_load 1 2 1685, 0, 0)) (x_T 1685 (x_L 1685 (2, x_nof, 77, 1)) (x_L 1688 (0, xi_load 2 2 1689, 0, 0)))))) (x_T 1700 (x_T 1697 (x_T 1689 (x_L 1689 (2, x_nof, 159, 1)) (x_T 1692 (x_L 1692 (0, xi_if2 0 2142 1695, 0, 0)) (x_L 1697 (0, xi_load 1 2 1698, 0, 0)))) (x_T 1698 (x_L 1698 (0, xi_load 0 2 1699, 0, 0)) (x_T 1699 (x_L 1699 (0, xi_load 3 0 1700, 0, 0)) (x_L 1700 (0, xi_push (0, 1, 1) 1701, 0, 0))))) (x_T 1703 (x_T 1701 (x_L 1701 (0, xi_bin xF_add 1702, 0, 0)) (x_T 1702 (x_L 1702 (0, xi_sld 1703, 0, 0)) (x_L 1703 (0, xi_load 0 2 1704, 0, 0)))) (x_T 1704 (x_L 1704 (0, xi_load 3 0 1705, 0, 0)) (x_T 1705 (x_L 1705 (0, xi_push (0, 2, 2) 1706, 0, 0)) (x_L 1706 (0, xi_bin xF_add 1707, 0, 0)))))))
set_option maxRecDepth 20000 in
set_option maxHeartbeats 4000000 in
theorem tb_0_1114_ok (K : xKx) (hK : x_KP K) (hS : ∀ R s A H V sc, K R s A H V sc → x_Scr R s A H V sc) : ∀ pc, x_EOq cls K xI m_0 pc (tb_0_1114 pc) :=
  (x_Tok2
  (x_Tok2
  (x_Tok2
  (x_Tok2
  (x_Lok (x_st (I := xI) (xr_aload_n (i := 2) (x_dk dl_0_11_ok 14 rfl))))
  (x_Lok (x_st (I := xI) (xr_aload_n (i := 0) (x_dk dl_0_11_ok 15 rfl)))))
  (x_Tok2
  (x_Lok (x_st (I := xI) (xr_iload_n (i := 3) (x_dk dl_0_11_ok 16 rfl))))
  (x_Tok2
  (x_Lok (x_st (I := xI) (xr_iconst (n := 1) (z := 1) (v := 1) (x_dk dl_0_11_ok 17 rfl) (by decide) (by decide))))
  (x_Lok (x_st (I := xI) (xr_iadd (x_dk dl_0_11_ok 18 rfl)))))))
  (x_Tok2
  (x_Tok2
  (x_Lok (x_st (I := xI) (xr_sld hS (x_dk dl_0_11_ok 19 rfl))))
  (x_Tok2
  (x_Lok (x_ca (I := xI) (q' := m_158) rfl (xr_callV (q' := m_158) (ix := 165) (n := 1) (in_t13 (List.mem_of_getElem? (i := 187) rfl) rfl) good_w (in_t1 (List.mem_of_getElem? (i := 14) rfl) rfl) (in_t13 (List.mem_of_getElem? (i := 184) rfl) rfl) (in_t13 (List.mem_of_getElem? (i := 185) rfl) rfl) (in_t13 (List.mem_of_getElem? (i := 186) rfl) rfl) (by decide +kernel) (by decide +kernel) (by decide +kernel) (x_dk dl_0_11_ok 20 rfl))))
  (x_Lok (x_st (I := xI) (xr_icmpeq (off := 463) (tg := 2142) (x_dk dl_0_11_ok 21 rfl) (by decide))))))
  (x_Tok2
  (x_Lok (x_st (I := xI) (xr_aload_n (i := 1) (x_dk dl_0_11_ok 22 rfl))))
  (x_Tok2
  (x_Lok (x_ca (I := xI) (q' := m_77) rfl (xr_callV (q' := m_77) (ix := 166) (n := 0) (in_t9 (List.mem_of_getElem? (i := 11) rfl) rfl) good_w (in_t1 (List.mem_of_getElem? (i := 1) rfl) rfl) (in_t9 (List.mem_of_getElem? (i := 8) rfl) rfl) (in_t9 (List.mem_of_getElem? (i := 9) rfl) rfl) (in_t9 (List.mem_of_getElem? (i := 10) rfl) rfl) (by decide +kernel) (by decide +kernel) (by decide +kernel) (x_dk dl_0_11_ok 23 rfl))))
  (x_Lok (x_st (I := xI) (xr_aload_n (i := 2) (x_dk dl_0_11_ok 24 rfl))))))))
  (x_Tok2
  (x_Tok2
  (x_Tok2
  (x_Lok (x_ca (I := xI) (q' := m_159) rfl (xr_callV (q' := m_159) (ix := 169) (n := 0) (in_t13 (List.mem_of_getElem? (i := 207) rfl) rfl) good_w (in_t1 (List.mem_of_getElem? (i := 14) rfl) rfl) (in_t13 (List.mem_of_getElem? (i := 204) rfl) rfl) (in_t13 (List.mem_of_getElem? (i := 205) rfl) rfl) (in_t13 (List.mem_of_getElem? (i := 206) rfl) rfl) (by decide +kernel) (by decide +kernel) (by decide +kernel) (x_dk dl_0_11_ok 25 rfl))))
  (x_Tok2
  (x_Lok (x_st (I := xI) (xr_icmpeq (off := 450) (tg := 2142) (x_dk dl_0_11_ok 26 rfl) (by decide))))
  (x_Lok (x_st (I := xI) (xr_aload_n (i := 1) (x_dk dl_0_11_ok 27 rfl))))))
  (x_Tok2
  (x_Lok (x_st (I := xI) (xr_aload_n (i := 0) (x_dk dl_0_11_ok 28 rfl))))
  (x_Tok2
  (x_Lok (x_st (I := xI) (xr_iload_n (i := 3) (x_dk dl_0_11_ok 29 rfl))))
  (x_Lok (x_st (I := xI) (xr_iconst (n := 1) (z := 1) (v := 1) (x_dk dl_0_11_ok 30 rfl) (by decide) (by decide)))))))
  (x_Tok2
  (x_Tok2
  (x_Lok (x_st (I := xI) (xr_iadd (x_dk dl_0_11_ok 31 rfl))))
  (x_Tok2
  (x_Lok (x_st (I := xI) (xr_sld hS (x_dk dl_0_11_ok 32 rfl))))
  (x_Lok (x_st (I := xI) (xr_aload_n (i := 0) (x_dk dl_0_11_ok 33 rfl))))))
  (x_Tok2
  (x_Lok (x_st (I := xI) (xr_iload_n (i := 3) (x_dk dl_0_11_ok 34 rfl))))
  (x_Tok2
  (x_Lok (x_st (I := xI) (xr_iconst (n := 2) (z := 2) (v := 2) (x_dk dl_0_11_ok 35 rfl) (by decide) (by decide))))
  (x_Lok (x_st (I := xI) (xr_iadd (x_dk dl_0_11_ok 36 rfl)))))))))
def tb_0_1137 : Nat → xE := (x_T 1719 (x_T 1713 (x_T 1708 (x_T 1707 (x_L 1707 (0, xi_sld 1708, 0, 0)) (x_L 1708 (2, x_nof, 78, 3))) (x_T 1711 (x_L 1711 (0, xi_load 2 2 1712, 0, 0)) (x_T 1712 (x_L 1712 (0, xi_load 0 2 1713, 0, 0)) (x_L 1713 (0, xi_load 3 0 1714, 0, 0))))) (x_T 1716 (x_T 1714 (x_L 1714 (0, xi_push (0, 1, 1) 1715, 0, 0)) (x_T 1715 (x_L 1715 (0, xi_bin xF_add 1716, 0, 0)) (x_L 1716 (0, xi_sld 1717, 0, 0)))) (x_T 1717 (x_L 1717 (0, xi_load 0 2 1718, 0, 0)) (x_T 1718 (x_L 1718 (0, xi_load 3 0 1719, 0, 0)) (x_L 1719 (0, xi_push (0, 2, 2) 1720, 0, 0)))))) (x_T 1731 (x_T 1722 (x_T 1720 (x_L 1720 (0, xi_bin xF_add 1721, 0, 0)) (x_T 1721 (x_L 1721 (0, xi_sld 1722, 0, 0)) (x_L 1722 (2, x_nof, 160, 3)))) (x_T 1725 (x_L 1725 (0, xi_if2 0 2142 1728, 0, 0)) (x_T 1730 (x_L 1730 (0, xi_load 1 2 1731, 0, 0)) (x_L 1731 (0, xi_load 0 2 1732, 0, 0))))) (x_T 1734 (x_T 1732 (x_L 1732 (0, xi_load 3 0 1733, 0, 0)) (x_T 1733 (x_L 1733 (0, xi_push (0, 1, 1) 1734, 0, 0)) (x_L 1734 (0, xi_bin xF_add 1735, 0, 0)))) (x_T 1735 (x_L 1735 (0, xi_sld 1736, 0, 0)) (x_T 1736 (x_L 1736 (0, xi_load 0 2 1737, 0, 0)) (x_L 1737 (0, xi_load 3 0 1738, 0, 0)))))))
set_option maxRecDepth 20000 in
set_option maxHeartbeats 4000000 in
theorem tb_0_1137_ok (K : xKx) (hK : x_KP K) (hS : ∀ R s A H V sc, K R s A H V sc → x_Scr R s A H V sc) : ∀ pc, x_EOq cls K xI m_0 pc (tb_0_1137 pc) :=
  (x_Tok2
  (x_Tok2
  (x_Tok2
  (x_Tok2
  (x_Lok (x_st (I := xI) (xr_sld hS (x_dk dl_0_11_ok 37 rfl))))
  (x_Lok (x_ca (I := xI) (q' := m_78) rfl (xr_callV (q' := m_78) (ix := 170) (n := 2) (in_t9 (List.mem_of_getElem? (i := 15) rfl) rfl) good_w (in_t1 (List.mem_of_getElem? (i := 1) rfl) rfl) (in_t9 (List.mem_of_getElem? (i := 12) rfl) rfl) (in_t9 (List.mem_of_getElem? (i := 13) rfl) rfl) (in_t9 (List.mem_of_getElem? (i := 14) rfl) rfl) (by decide +kernel) (by decide +kernel) (by decide +kernel) (x_dk dl_0_11_ok 38 rfl)))))
  (x_Tok2
  (x_Lok (x_st (I := xI) (xr_aload_n (i := 2) (x_dk dl_0_11_ok 39 rfl))))
  (x_Tok2
  (x_Lok (x_st (I := xI) (xr_aload_n (i := 0) (x_dk dl_0_11_ok 40 rfl))))
  (x_Lok (x_st (I := xI) (xr_iload_n (i := 3) (x_dk dl_0_11_ok 41 rfl)))))))
  (x_Tok2
  (x_Tok2
  (x_Lok (x_st (I := xI) (xr_iconst (n := 1) (z := 1) (v := 1) (x_dk dl_0_11_ok 42 rfl) (by decide) (by decide))))
  (x_Tok2
  (x_Lok (x_st (I := xI) (xr_iadd (x_dk dl_0_11_ok 43 rfl))))
  (x_Lok (x_st (I := xI) (xr_sld hS (x_dk dl_0_11_ok 44 rfl))))))
  (x_Tok2
  (x_Lok (x_st (I := xI) (xr_aload_n (i := 0) (x_dk dl_0_11_ok 45 rfl))))
  (x_Tok2
  (x_Lok (x_st (I := xI) (xr_iload_n (i := 3) (x_dk dl_0_11_ok 46 rfl))))
  (x_Lok (x_st (I := xI) (xr_iconst (n := 2) (z := 2) (v := 2) (x_dk dl_0_11_ok 47 rfl) (by decide) (by decide))))))))
  (x_Tok2
  (x_Tok2
  (x_Tok2
  (x_Lok (x_st (I := xI) (xr_iadd (x_dk dl_0_11_ok 48 rfl))))
  (x_Tok2
  (x_Lok (x_st (I := xI) (xr_sld hS (x_dk dl_0_11_ok 49 rfl))))
  (x_Lok (x_ca (I := xI) (q' := m_160) rfl (xr_callV (q' := m_160) (ix := 173) (n := 2) (in_t13 (List.mem_of_getElem? (i := 211) rfl) rfl) good_w (in_t1 (List.mem_of_getElem? (i := 14) rfl) rfl) (in_t13 (List.mem_of_getElem? (i := 208) rfl) rfl) (in_t13 (List.mem_of_getElem? (i := 209) rfl) rfl) (in_t13 (List.mem_of_getElem? (i := 210) rfl) rfl) (by decide +kernel) (by decide +kernel) (by decide +kernel) (x_dk dl_0_11_ok 50 rfl))))))
  (x_Tok2
  (x_Lok (x_st (I := xI) (xr_icmpeq (off := 417) (tg := 2142) (x_dk dl_0_11_ok 51 rfl) (by decide))))
  (x_Tok2
  (x_Lok (x_st (I := xI) (xr_aload_n (i := 1) (x_dk dl_0_11_ok 52 rfl))))
  (x_Lok (x_st (I := xI) (xr_aload_n (i := 0) (x_dk dl_0_11_ok 53 rfl)))))))
  (x_Tok2
  (x_Tok2
  (x_Lok (x_st (I := xI) (xr_iload_n (i := 3) (x_dk dl_0_11_ok 54 rfl))))
  (x_Tok2
  (x_Lok (x_st (I := xI) (xr_iconst (n := 1) (z := 1) (v := 1) (x_dk dl_0_11_ok 55 rfl) (by decide) (by decide))))
  (x_Lok (x_st (I := xI) (xr_iadd (x_dk dl_0_11_ok 56 rfl))))))
  (x_Tok2
  (x_Lok (x_st (I := xI) (xr_sld hS (x_dk dl_0_11_ok 57 rfl))))
  (x_Tok2
  (x_Lok (x_st (I := xI) (xr_aload_n (i := 0) (x_dk dl_0_11_ok 58 rfl))))
  (x_Lok (x_st (I := xI) (xr_iload_n (i := 3) (x_dk dl_0_11_ok 59 rfl)))))))))
def tb_0_1160 : Nat → xE := (x_T 1750 (x_T 1744 (x_T 1739 (x_T 1738 (x_L 1738 (0, xi_push (0, 2, 2) 1739, 0, 0)) (x_L 1739 (0, xi_bin xF_add 1740, 0, 0))) (x_T 1740 (x_L 1740 (0, xi_sld 1741, 0, 0)) (x_T 1741 (x_L 1741 (2, x_nof, 79, 3)) (x_L 1744 (0, xi_load 2 2 1745, 0, 0))))) (x_T 1747 (x_T 1745 (x_L 1745 (0, xi_load 0 2 1746, 0, 0)) (x_T 1746 (x_L 1746 (0, xi_load 3 0 1747, 0, 0)) (x_L 1747 (0, xi_push (0, 1, 1) 1748, 0, 0)))) (x_T 1748 (x_L 1748 (0, xi_bin xF_add 1749, 0, 0)) (x_T 1749 (x_L 1749 (0, xi_sld 1750, 0, 0)) (x_L 1750 (0, xi_load 0 2 1751, 0, 0)))))) (x_T 1758 (x_T 1753 (x_T 1751 (x_L 1751 (0, xi_load 3 0 1752, 0, 0)) (x_T 1752 (x_L 1752 (0, xi_push (0, 2, 2) 1753, 0, 0)) (x_L 1753 (0, xi_bin xF_add 1754, 0, 0)))) (x_T 1754 (x_L 1754 (0, xi_sld 1755, 0, 0)) (x_T 1755 (x_L 1755 (2, x_nof, 161, 3)) (x_L 1758 (0, xi_if2 0 2142 1761, 0, 0))))) (x_T 1765 (x_T 1763 (x_L 1763 (0, xi_load 1 2 1764, 0, 0)) (x_T 1764 (x_L 1764 (0, xi_load 0 2 1765, 0, 0)) (x_L 1765 (0, xi_load 3 0 1766, 0, 0)))) (x_T 1766 (x_L 1766 (0, xi_push (0, 1, 1) 1767, 0, 0)) (x_T 1767 (x_L 1767 (0, xi_bin xF_add 1768, 0, 0)) (x_L 1768 (0, xi_sld 1769, 0, 0)))))))
set_option maxRecDepth 20000 in
set_option maxHeartbeats 4000000 in
theorem tb_0_1160_ok (K : xKx) (hK : x_KP K) (hS : ∀ R s A H V sc, K R s A H V sc → x_Scr R s A H V sc) : ∀ pc, x_EOq cls K xI m_0 pc (tb_0_1160 pc) :=
  (x_Tok2
  (x_Tok2
  (x_Tok2
  (x_Tok2
  (x_Lok (x_st (I := xI) (xr_iconst (n := 2) (z := 2) (v := 2) (x_dk dl_0_11_ok 60 rfl) (by decide) (by decide))))
  (x_Lok (x_st (I := xI) (xr_iadd (x_dk dl_0_11_ok 61 rfl)))))
  (x_Tok2
  (x_Lok (x_st (I := xI) (xr_sld hS (x_dk dl_0_11_ok 62 rfl))))
  (x_Tok2
  (x_Lok (x_ca (I := xI) (q' := m_79) rfl (xr_callV (q' := m_79) (ix := 174) (n := 2) (in_t9 (List.mem_of_getElem? (i := 20) rfl) rfl) good_w (in_t1 (List.mem_of_getElem? (i := 1) rfl) rfl) (in_t9 (List.mem_of_getElem? (i := 17) rfl) rfl) (in_t9 (List.mem_of_getElem? (i := 18) rfl) rfl) (in_t9 (List.mem_of_getElem? (i := 19) rfl) rfl) (by decide +kernel) (by decide +kernel) (by decide +kernel) (x_dk dl_0_11_ok 63 rfl))))
  (x_Lok (x_st (I := xI) (xr_aload_n (i := 2) (x_dk dl_0_11_ok 64 rfl)))))))
  (x_Tok2
  (x_Tok2
  (x_Lok (x_st (I := xI) (xr_aload_n (i := 0) (x_dk dl_0_11_ok 65 rfl))))
  (x_Tok2
  (x_Lok (x_st (I := xI) (xr_iload_n (i := 3) (x_dk dl_0_11_ok 66 rfl))))
  (x_Lok (x_st (I := xI) (xr_iconst (n := 1) (z := 1) (v := 1) (x_dk dl_0_11_ok 67 rfl) (by decide) (by decide))))))
  (x_Tok2
  (x_Lok (x_st (I := xI) (xr_iadd (x_dk dl_0_11_ok 68 rfl))))
  (x_Tok2
  (x_Lok (x_st (I := xI) (xr_sld hS (x_dk dl_0_11_ok 69 rfl))))
  (x_Lok (x_st (I := xI) (xr_aload_n (i := 0) (x_dk dl_0_11_ok 70 rfl))))))))
  (x_Tok2
  (x_Tok2
  (x_Tok2
  (x_Lok (x_st (I := xI) (xr_iload_n (i := 3) (x_dk dl_0_11_ok 71 rfl))))
  (x_Tok2
  (x_Lok (x_st (I := xI) (xr_iconst (n := 2) (z := 2) (v := 2) (x_dk dl_0_11_ok 72 rfl) (by decide) (by decide))))
  (x_Lok (x_st (I := xI) (xr_iadd (x_dk dl_0_11_ok 73 rfl))))))
  (x_Tok2
  (x_Lok (x_st (I := xI) (xr_sld hS (x_dk dl_0_11_ok 74 rfl))))
  (x_Tok2
  (x_Lok (x_ca (I := xI) (q' := m_161) rfl (xr_callV (q' := m_161) (ix := 177) (n := 2) (in_t13 (List.mem_of_getElem? (i := 215) rfl) rfl) good_w (in_t1 (List.mem_of_getElem? (i := 14) rfl) rfl) (in_t13 (List.mem_of_getElem? (i := 212) rfl) rfl) (in_t13 (List.mem_of_getElem? (i := 213) rfl) rfl) (in_t13 (List.mem_of_getElem? (i := 214) rfl) rfl) (by decide +kernel) (by decide +kernel) (by decide +kernel) (x_dk dl_0_11_ok 75 rfl))))
  (x_Lok (x_st (I := xI) (xr_icmpeq (off := 384) (tg := 2142) (x_dk dl_0_11_ok 76 rfl) (by decide)))))))
  (x_Tok2
  (x_Tok2
  (x_Lok (x_st (I := xI) (xr_aload_n (i := 1) (x_dk dl_0_11_ok 77 rfl))))
  (x_Tok2
  (x_Lok (x_st (I := xI) (xr_aload_n (i := 0) (x_dk dl_0_11_ok 78 rfl))))
  (x_Lok (x_st (I := xI) (xr_iload_n (i := 3) (x_dk dl_0_11_ok 79 rfl))))))
  (x_Tok2
  (x_Lok (x_st (I := xI) (xr_iconst (n := 1) (z := 1) (v := 1) (x_dk dl_0_11_ok 80 rfl) (by decide) (by decide))))
  (x_Tok2
  (x_Lok (x_st (I := xI) (xr_iadd (x_dk dl_0_11_ok 81 rfl))))
  (x_Lok (x_st (I := xI) (xr_sld hS (x_dk dl_0_11_ok 82 rfl)))))))))
def tb_0_1183 : Nat → xE := (x_T 1779 (x_T 1773 (x_T 1770 (x_T 1769 (x_L 1769 (0, xi_load 0 2 1770, 0, 0)) (x_L 1770 (0, xi_load 3 0 1771, 0, 0))) (x_T 1771 (x_L 1771 (0, xi_push (0, 2, 2) 1772, 0, 0)) (x_T 1772 (x_L 1772 (0, xi_bin xF_add 1773, 0, 0)) (x_L 1773 (0, xi_sld 1774, 0, 0))))) (x_T 1776 (x_T 1774 (x_L 1774 (0, xi_load 0 2 1775, 0, 0)) (x_T 1775 (x_L 1775 (0, xi_load 3 0 1776, 0, 0)) (x_L 1776 (0, xi_push (0, 3, 3) 1777, 0, 0)))) (x_T 1777 (x_L 1777 (0, xi_bin xF_add 1778, 0, 0)) (x_T 1778 (x_L 1778 (0, xi_sld 1779, 0, 0)) (x_L 1779 (2, x_nof, 80, 4)))))) (x_T 1786 (x_T 1783 (x_T 1782 (x_L 1782 (0, xi_load 2 2 1783, 0, 0)) (x_L 1783 (0, xi_load 0 2 1784, 0, 0))) (x_T 1784 (x_L 1784 (0, xi_load 3 0 1785, 0, 0)) (x_T 1785 (x_L 1785 (0, xi_push (0, 1, 1) 1786, 0, 0)) (x_L 1786 (0, xi_bin xF_add 1787, 0, 0))))) (x_T 1789 (x_T 1787 (x_L 1787 (0, xi_sld 1788, 0, 0)) (x_T 1788 (x_L 1788 (0, xi_load 0 2 1789, 0, 0)) (x_L 1789 (0, xi_load 3 0 1790, 0, 0)))) (x_T 1790 (x_L 1790 (0, xi_push (0, 2, 2) 1791, 0, 0)) (x_T 1791 (x_L 1791 (0, xi_bin xF_add 1792, 0, 0)) (x_L 1792 (0, xi_sld 1793, 0, 0)))))))
set_option maxRecDepth 20000 in
set_option maxHeartbeats 4000000 in
theorem tb_0_1183_ok (K : xKx) (hK : x_KP K) (hS : ∀ R s A H V sc, K R s A H V sc → x_Scr R s A H V sc) : ∀ pc, x_EOq cls K xI m_0 pc (tb_0_1183 pc) :=
  (x_Tok2
  (x_Tok2
  (x_Tok2
  (x_Tok2
  (x_Lok (x_st (I := xI) (xr_aload_n (i := 0) (x_dk dl_0_11_ok 83 rfl))))
  (x_Lok (x_st (I := xI) (xr_iload_n (i := 3) (x_dk dl_0_11_ok 84 rfl)))))
  (x_Tok2
  (x_Lok (x_st (I := xI) (xr_iconst (n := 2) (z := 2) (v := 2) (x_dk dl_0_11_ok 85 rfl) (by decide) (by decide))))
  (x_Tok2
  (x_Lok (x_st (I := xI) (xr_iadd (x_dk dl_0_11_ok 86 rfl))))
  (x_Lok (x_st (I := xI) (xr_sld hS (x_dk dl_0_11_ok 87 rfl)))))))
  (x_Tok2
  (x_Tok2
  (x_Lok (x_st (I := xI) (xr_aload_n (i := 0) (x_dk dl_0_11_ok 88 rfl))))
  (x_Tok2
  (x_Lok (x_st (I := xI) (xr_iload_n (i := 3) (x_dk dl_0_11_ok 89 rfl))))
  (x_Lok (x_st (I := xI) (xr_iconst (n := 3) (z := 3) (v := 3) (x_dk dl_0_11_ok 90 rfl) (by decide) (by decide))))))
  (x_Tok2
  (x_Lok (x_st (I := xI) (xr_iadd (x_dk dl_0_11_ok 91 rfl))))
  (x_Tok2
  (x_Lok (x_st (I := xI) (xr_sld hS (x_dk dl_0_11_ok 92 rfl))))
  (x_Lok (x_ca (I := xI) (q' := m_80) rfl (xr_callV (q' := m_80) (ix := 178) (n := 3) (in_t9 (List.mem_of_getElem? (i := 24) rfl) rfl) good_w (in_t1 (List.mem_of_getElem? (i := 1) rfl) rfl) (in_t9 (List.mem_of_getElem? (i := 21) rfl) rfl) (in_t9 (List.mem_of_getElem? (i := 22) rfl) rfl) (in_t9 (List.mem_of_getElem? (i := 23) rfl) rfl) (by decide +kernel) (by decide +kernel) (by decide +kernel) (x_dk dl_0_11_ok 93 rfl))))))))
  (x_Tok2
  (x_Tok2
  (x_Tok2
  (x_Lok (x_st (I := xI) (xr_aload_n (i := 2) (x_dk dl_0_11_ok 94 rfl))))
  (x_Lok (x_st (I := xI) (xr_aload_n (i := 0) (x_dk dl_0_11_ok 95 rfl)))))
  (x_Tok2
  (x_Lok (x_st (I := xI) (xr_iload_n (i := 3) (x_dk dl_0_11_ok 96 rfl))))
  (x_Tok2
  (x_Lok (x_st (I := xI) (xr_iconst (n := 1) (z := 1) (v := 1) (x_dk dl_0_11_ok 97 rfl) (by decide) (by decide))))
  (x_Lok (x_st (I := xI) (xr_iadd (x_dk dl_0_11_ok 98 rfl)))))))
  (x_Tok2
  (x_Tok2
  (x_Lok (x_st (I := xI) (xr_sld hS (x_dk dl_0_11_ok 99 rfl))))
  (x_Tok2
  (x_Lok (x_st (I := xI) (xr_aload_n (i := 0) (x_dk dl_0_12_ok 0 rfl))))
  (x_Lok (x_st (I := xI) (xr_iload_n (i := 3) (x_dk dl_0_12_ok 1 rfl))))))
  (x_Tok2
  (x_Lok (x_st (I := xI) (xr_iconst (n := 2) (z := 2) (v := 2) (x_dk dl_0_12_ok 2 rfl) (by decide) (by decide))))
  (x_Tok2
  (x_Lok (x_st (I := xI) (xr_iadd (x_dk dl_0_12_ok 3 rfl))))
  (x_Lok (x_st (I := xI) (xr_sld hS (x_dk dl_0_12_ok 4 rfl)))))))))
def tb_0_1205 : Nat → xE := (x_T 1809 (x_T 1797 (x_T 1794 (x_T 1793 (x_L 1793 (0, xi_load 0 2 1794, 0, 0)) (x_L 1794 (0, xi_load 3 0 1795, 0, 0))) (x_T 1795 (x_L 1795 (0, xi_push (0, 3, 3) 1796, 0, 0)) (x_T 1796 (x_L 1796 (0, xi_bin xF_add 1797, 0, 0)) (x_L 1797 (0, xi_sld 1798, 0, 0))))) (x_T 1806 (x_T 1798 (x_L 1798 (2, x_nof, 162, 4)) (x_T 1801 (x_L 1801 (0, xi_if2 0 2142 1804, 0, 0)) (x_L 1806 (0, xi_load 1 2 1807, 0, 0)))) (x_T 1807 (x_L 1807 (0, xi_load 0 2 1808, 0, 0)) (x_T 1808 (x_L 1808 (0, xi_load 3 0 1809, 0, 0)) (x_L 1809 (0, xi_push (0, 1, 1) 1810, 0, 0)))))) (x_T 1815 (x_T 1812 (x_T 1810 (x_L 1810 (0, xi_bin xF_add 1811, 0, 0)) (x_T 1811 (x_L 1811 (0, xi_sld 1812, 0, 0)) (x_L 1812 (0, xi_load 0 2 1813, 0, 0)))) (x_T 1813 (x_L 1813 (0, xi_load 3 0 1814, 0, 0)) (x_T 1814 (x_L 1814 (0, xi_push (0, 2, 2) 1815, 0, 0)) (x_L 1815 (0, xi_bin xF_add 1816, 0, 0))))) (x_T 1820 (x_T 1816 (x_L 1816 (0, xi_sld 1817, 0, 0)) (x_T 1817 (x_L 1817 (2, x_nof, 81, 3)) (x_L 1820 (0, xi_load 2 2 1821, 0, 0)))) (x_T 1821 (x_L 1821 (0, xi_load 0 2 1822, 0, 0)) (x_T 1822 (x_L 1822 (0, xi_load 3 0 1823, 0, 0)) (x_L 1823 (0, xi_push (0, 1, 1) 1824, 0, 0)))))))
set_option maxRecDepth 20000 in
set_option maxHeartbeats 4000000 in
theorem tb_0_1205_ok (K : xKx) (hK : x_KP K) (hS : ∀ R s A H V sc, K R s A H V sc → x_Scr R s A H V sc) : ∀ pc, x_EOq cls K xI m_0 pc (tb_0_1205 pc) :=
  (x_Tok2
  (x_Tok2
  (x_Tok2
  (x_Tok2
  (x_Lok (x_st (I := xI) (xr_aload_n (i := 0) (x_dk dl_0_12_ok 5 rfl))))
  (x_Lok (x_st (I := xI) (xr_iload_n (i := 3) (x_dk dl_0_12_ok 6 rfl)))))
  (x_Tok2
  (x_Lok (x_st (I := xI) (xr_iconst (n := 3) (z := 3) (v := 3) (x_dk dl_0_12_ok 7 rfl) (by decide) (by decide))))
  (x_Tok2
  (x_Lok (x_st (I := xI) (xr_iadd (x_dk dl_0_12_ok 8 rfl))))
  (x_Lok (x_st (I := xI) (xr_sld hS (x_dk dl_0_12_ok 9 rfl)))))))
  (x_Tok2
  (x_Tok2
  (x_Lok (x_ca (I := xI) (q' := m_162) rfl (xr_callV (q' := m_162) (ix := 181) (n := 3) (in_t13 (List.mem_of_getElem? (i := 219) rfl) rfl) good_w (in_t1 (List.mem_of_getElem? (i := 14) rfl) rfl) (in_t13 (List.mem_of_getElem? (i := 216) rfl) rfl) (in_t13 (List.mem_of_getElem? (i := 217) rfl) rfl) (in_t13 (List.mem_of_getElem? (i := 218) rfl) rfl) (by decide +kernel) (by decide +kernel) (by decide +kernel) (x_dk dl_0_12_ok 10 rfl))))
  (x_Tok2
  (x_Lok (x_st (I := xI) (xr_icmpeq (off := 341) (tg := 2142) (x_dk dl_0_12_ok 11 rfl) (by decide))))
  (x_Lok (x_st (I := xI) (xr_aload_n (i := 1) (x_dk dl_0_12_ok 12 rfl))))))
  (x_Tok2
  (x_Lok (x_st (I := xI) (xr_aload_n (i := 0) (x_dk dl_0_12_ok 13 rfl))))
  (x_Tok2
  (x_Lok (x_st (I := xI) (xr_iload_n (i := 3) (x_dk dl_0_12_ok 14 rfl))))
  (x_Lok (x_st (I := xI) (xr_iconst (n := 1) (z := 1) (v := 1) (x_dk dl_0_12_ok 15 rfl) (by decide) (by decide))))))))
  (x_Tok2
  (x_Tok2
  (x_Tok2
  (x_Lok (x_st (I := xI) (xr_iadd (x_dk dl_0_12_ok 16 rfl))))
  (x_Tok2
  (x_Lok (x_st (I := xI) (xr_sld hS (x_dk dl_0_12_ok 17 rfl))))
  (x_Lok (x_st (I := xI) (xr_aload_n (i := 0) (x_dk dl_0_12_ok 18 rfl))))))
  (x_Tok2
  (x_Lok (x_st (I := xI) (xr_iload_n (i := 3) (x_dk dl_0_12_ok 19 rfl))))
  (x_Tok2
  (x_Lok (x_st (I := xI) (xr_iconst (n := 2) (z := 2) (v := 2) (x_dk dl_0_12_ok 20 rfl) (by decide) (by decide))))
  (x_Lok (x_st (I := xI) (xr_iadd (x_dk dl_0_12_ok 21 rfl)))))))
  (x_Tok2
  (x_Tok2
  (x_Lok (x_st (I := xI) (xr_sld hS (x_dk dl_0_12_ok 22 rfl))))
  (x_Tok2
  (x_Lok (x_ca (I := xI) (q' := m_81) rfl (xr_callV (q' := m_81) (ix := 182) (n := 2) (in_t9 (List.mem_of_getElem? (i := 28) rfl) rfl) good_w (in_t1 (List.mem_of_getElem? (i := 1) rfl) rfl) (in_t9 (List.mem_of_getElem? (i := 25) rfl) rfl) (in_t9 (List.mem_of_getElem? (i := 26) rfl) rfl) (in_t9 (List.mem_of_getElem? (i := 27) rfl) rfl) (by decide +kernel) (by decide +kernel) (by decide +kernel) (x_dk dl_0_12_ok 23 rfl))))
  (x_Lok (x_st (I := xI) (xr_aload_n (i := 2) (x_dk dl_0_12_ok 24 rfl))))))
  (x_Tok2
  (x_Lok (x_st (I := xI) (xr_aload_n (i := 0) (x_dk dl_0_12_ok 25 rfl))))
  (x_Tok2
  (x_Lok (x_st (I := xI) (xr_iload_n (i := 3) (x_dk dl_0_12_ok 26 rfl))))
  (x_Lok (x_st (I := xI) (xr_iconst (n := 1) (z := 1) (v := 1) (x_dk dl_0_12_ok 27 rfl) (by decide) (by decide)))))))))
def tb_0_1228 : Nat → xE := (x_T 1840 (x_T 1828 (x_T 1825 (x_T 1824 (x_L 1824 (0, xi_bin xF_add 1825, 0, 0)) (x_L 1825 (0, xi_sld 1826, 0, 0))) (x_T 1826 (x_L 1826 (0, xi_load 0 2 1827, 0, 0)) (x_T 1827 (x_L 1827 (0, xi_load 3 0 1828, 0, 0)) (x_L 1828 (0, xi_push (0, 2, 2) 1829, 0, 0))))) (x_T 1831 (x_T 1829 (x_L 1829 (0, xi_bin xF_add 1830, 0, 0)) (x_T 1830 (x_L 1830 (0, xi_sld 1831, 0, 0)) (x_L 1831 (2, x_nof, 163, 3)))) (x_T 1834 (x_L 1834 (0, xi_if2 0 2142 1837, 0, 0)) (x_T 1839 (x_L 1839 (0, xi_load 1 2 1840, 0, 0)) (x_L 1840 (0, xi_load 0 2 1841, 0, 0)))))) (x_T 1846 (x_T 1843 (x_T 1841 (x_L 1841 (0, xi_load 3 0 1842, 0, 0)) (x_T 1842 (x_L 1842 (0, xi_push (0, 1, 1) 1843, 0, 0)) (x_L 1843 (0, xi_bin xF_add 1844, 0, 0)))) (x_T 1844 (x_L 1844 (0, xi_sld 1845, 0, 0)) (x_T 1845 (x_L 1845 (0, xi_load 0 2 1846, 0, 0)) (x_L 1846 (0, xi_load 3 0 1847, 0, 0))))) (x_T 1849 (x_T 1847 (x_L 1847 (0, xi_push (0, 2, 2) 1848, 0, 0)) (x_T 1848 (x_L 1848 (0, xi_bin xF_add 1849, 0, 0)) (x_L 1849 (0, xi_sld 1850, 0, 0)))) (x_T 1850 (x_L 1850 (2, x_nof, 82, 3)) (x_T 1853 (x_L 1853 (0, xi_load 2 2 1854, 0, 0)) (x_L 1854 (0, xi_load 0 2 1855, 0, 0)))))))
set_option maxRecDepth 20000 in
set_option maxHeartbeats 4000000 in
theorem tb_0_1228_ok (K : xKx) (hK : x_KP K) (hS : ∀ R s A H V sc, K R s A H V sc → x_Scr R s A H V sc) : ∀ pc, x_EOq cls K xI m_0 pc (tb_0_1228 pc) :=
  (x_Tok2
  (x_Tok2
  (x_Tok2
  (x_Tok2
  (x_Lok (x_st (I := xI) (xr_iadd (x_dk dl_0_12_ok 28 rfl))))
  (x_Lok (x_st (I := xI) (xr_sld hS (x_dk dl_0_12_ok 29 rfl)))))
  (x_Tok2
  (x_Lok (x_st (I := xI) (xr_aload_n (i := 0) (x_dk dl_0_12_ok 30 rfl))))
  (x_Tok2
  (x_Lok (x_st (I := xI) (xr_iload_n (i := 3) (x_dk dl_0_12_ok 31 rfl))))
  (x_Lok (x_st (I := xI) (xr_iconst (n := 2) (z := 2) (v := 2) (x_dk dl_0_12_ok 32 rfl) (by decide) (by decide)))))))
  (x_Tok2
  (x_Tok2
  (x_Lok (x_st (I := xI) (xr_iadd (x_dk dl_0_12_ok 33 rfl))))
  (x_Tok2
  (x_Lok (x_st (I := xI) (xr_sld hS (x_dk dl_0_12_ok 34 rfl))))
  (x_Lok (x_ca (I := xI) (q' := m_163) rfl (xr_callV (q' := m_163) (ix := 185) (n := 2) (in_t13 (List.mem_of_getElem? (i := 223) rfl) rfl) good_w (in_t1 (List.mem_of_getElem? (i := 14) rfl) rfl) (in_t13 (List.mem_of_getElem? (i := 220) rfl) rfl) (in_t13 (List.mem_of_getElem? (i := 221) rfl) rfl) (in_t13 (List.mem_of_getElem? (i := 222) rfl) rfl) (by decide +kernel) (by decide +kernel) (by decide +kernel) (x_dk dl_0_12_ok 35 rfl))))))
  (x_Tok2
  (x_Lok (x_st (I := xI) (xr_icmpeq (off := 308) (tg := 2142) (x_dk dl_0_12_ok 36 rfl) (by decide))))
  (x_Tok2
  (x_Lok (x_st (I := xI) (xr_aload_n (i := 1) (x_dk dl_0_12_ok 37 rfl))))
  (x_Lok (x_st (I := xI) (xr_aload_n (i := 0) (x_dk dl_0_12_ok 38 rfl))))))))
  (x_Tok2
  (x_Tok2
  (x_Tok2
  (x_Lok (x_st (I := xI) (xr_iload_n (i := 3) (x_dk dl_0_12_ok 39 rfl))))
  (x_Tok2
  (x_Lok (x_st (I := xI) (xr_iconst (n := 1) (z := 1) (v := 1) (x_dk dl_0_12_ok 40 rfl) (by decide) (by decide))))
  (x_Lok (x_st (I := xI) (xr_iadd (x_dk dl_0_12_ok 41 rfl))))))
  (x_Tok2
  (x_Lok (x_st (I := xI) (xr_sld hS (x_dk dl_0_12_ok 42 rfl))))
  (x_Tok2
  (x_Lok (x_st (I := xI) (xr_aload_n (i := 0) (x_dk dl_0_12_ok 43 rfl))))
  (x_Lok (x_st (I := xI) (xr_iload_n (i := 3) (x_dk dl_0_12_ok 44 rfl)))))))
  (x_Tok2
  (x_Tok2
  (x_Lok (x_st (I := xI) (xr_iconst (n := 2) (z := 2) (v := 2) (x_dk dl_0_12_ok 45 rfl) (by decide) (by decide))))
  (x_Tok2
  (x_Lok (x_st (I := xI) (xr_iadd (x_dk dl_0_12_ok 46 rfl))))
  (x_Lok (x_st (I := xI) (xr_sld hS (x_dk dl_0_12_ok 47 rfl))))))
  (x_Tok2
  (x_Lok (x_ca (I := xI) (q' := m_82) rfl (xr_callV (q' := m_82) (ix := 186) (n := 2) (in_t9 (List.mem_of_getElem? (i := 33) rfl) rfl) good_w (in_t1 (List.mem_of_getElem? (i := 1) rfl) rfl) (in_t9 (List.mem_of_getElem? (i := 30) rfl) rfl) (in_t9 (List.mem_of_getElem? (i := 31) rfl) rfl) (in_t9 (List.mem_of_getElem? (i := 32) rfl) rfl) (by decide +kernel) (by decide +kernel) (by decide +kernel) (x_dk dl_0_12_ok 48 rfl))))
  (x_Tok2
  (x_Lok (x_st (I := xI) (xr_aload_n (i := 2) (x_dk dl_0_12_ok 49 rfl))))
  (x_Lok (x_st (I := xI) (xr_aload_n (i := 0) (x_dk dl_0_12_ok 50 rfl)))))))))
def tb_0_1251 : Nat → xE := (x_T 1867 (x_T 1859 (x_T 1856 (x_T 1855 (x_L 1855 (0, xi_load 3 0 1856, 0, 0)) (x_L 1856 (0, xi_push (0, 1, 1) 1857, 0, 0))) (x_T 1857 (x_L 1857 (0, xi_bin xF_add 1858, 0, 0)) (x_T 1858 (x_L 1858 (0, xi_sld 1859, 0, 0)) (x_L 1859 (0, xi_load 0 2 1860, 0, 0))))) (x_T 1862 (x_T 1860 (x_L 1860 (0, xi_load 3 0 1861, 0, 0)) (x_T 1861 (x_L 1861 (0, xi_push (0, 2, 2) 1862, 0, 0)) (x_L 1862 (0, xi_bin xF_add 1863, 0, 0)))) (x_T 1863 (x_L 1863 (0, xi_sld 1864, 0, 0)) (x_T 1864 (x_L 1864 (2, x_nof, 164, 3)) (x_L 1867 (0, xi_if2 0 2142 1870, 0, 0)))))) (x_T 1877 (x_T 1874 (x_T 1872 (x_L 1872 (0, xi_load 1 2 1873, 0, 0)) (x_T 1873 (x_L 1873 (0, xi_load 0 2 1874, 0, 0)) (x_L 1874 (0, xi_load 3 0 1875, 0, 0)))) (x_T 1875 (x_L 1875 (0, xi_push (0, 1, 1) 1876, 0, 0)) (x_T 1876 (x_L 1876 (0, xi_bin xF_add 1877, 0, 0)) (x_L 1877 (0, xi_sld 1878, 0, 0))))) (x_T 1880 (x_T 1878 (x_L 1878 (0, xi_load 0 2 1879, 0, 0)) (x_T 1879 (x_L 1879 (0, xi_load 3 0 1880, 0, 0)) (x_L 1880 (0, xi_push (0, 2, 2) 1881, 0, 0)))) (x_T 1881 (x_L 1881 (0, xi_bin xF_add 1882, 0, 0)) (x_T 1882 (x_L 1882 (0, xi_sld 1883, 0, 0)) (x_L 1883 (2, x_nof, 83, 3)))))))
set_option maxRecDepth 20000 in
set_option maxHeartbeats 4000000 in
theorem tb_0_1251_ok (K : xKx) (hK : x_KP K) (hS : ∀ R s A H V sc, K R s A H V sc → x_Scr R s A H V sc) : ∀ pc, x_EOq cls K xI m_0 pc (tb_0_1251 pc) :=
  (x_Tok2
  (x_Tok2
  (x_Tok2
  (x_Tok2
  (x_Lok (x_st (I := xI) (xr_iload_n (i := 3) (x_dk dl_0_12_ok 51 rfl))))
  (x_Lok (x_st (I := xI) (xr_iconst (n := 1) (z := 1) (v := 1) (x_dk dl_0_12_ok 52 rfl) (by decide) (by decide)))))
  (x_Tok2
  (x_Lok (x_st (I := xI) (xr_iadd (x_dk dl_0_12_ok 53 rfl))))
  (x_Tok2
  (x_Lok (x_st (I := xI) (xr_sld hS (x_dk dl_0_12_ok 54 rfl))))
  (x_Lok (x_st (I := xI) (xr_aload_n (i := 0) (x_dk dl_0_12_ok 55 rfl)))))))
  (x_Tok2
  (x_Tok2
  (x_Lok (x_st (I := xI) (xr_iload_n (i := 3) (x_dk dl_0_12_ok 56 rfl))))
  (x_Tok2
  (x_Lok (x_st (I := xI) (xr_iconst (n := 2) (z := 2) (v := 2) (x_dk dl_0_12_ok 57 rfl) (by decide) (by decide))))
  (x_Lok (x_st (I := xI) (xr_iadd (x_dk dl_0_12_ok 58 rfl))))))
  (x_Tok2
  (x_Lok (x_st (I := xI) (xr_sld hS (x_dk dl_0_12_ok 59 rfl))))
  (x_Tok2
  (x_Lok (x_ca (I := xI) (q' := m_164) rfl (xr_callV (q' := m_164) (ix := 189) (n := 2) (in_t13 (List.mem_of_getElem? (i := 227) rfl) rfl) good_w (in_t1 (List.mem_of_getElem? (i := 14) rfl) rfl) (in_t13 (List.mem_of_getElem? (i := 224) rfl) rfl) (in_t13 (List.mem_of_getElem? (i := 225) rfl) rfl) (in_t13 (List.mem_of_getElem? (i := 226) rfl) rfl) (by decide +kernel) (by decide +kernel) (by decide +kernel) (x_dk dl_0_12_ok 60 rfl))))
  (x_Lok (x_st (I := xI) (xr_icmpeq (off := 275) (tg := 2142) (x_dk dl_0_12_ok 61 rfl) (by decide))))))))
  (x_Tok2
  (x_Tok2
  (x_Tok2
  (x_Lok (x_st (I := xI) (xr_aload_n (i := 1) (x_dk dl_0_12_ok 62 rfl))))
  (x_Tok2
  (x_Lok (x_st (I := xI) (xr_aload_n (i := 0) (x_dk dl_0_12_ok 63 rfl))))
  (x_Lok (x_st (I := xI) (xr_iload_n (i := 3) (x_dk dl_0_12_ok 64 rfl))))))
  (x_Tok2
  (x_Lok (x_st (I := xI) (xr_iconst (n := 1) (z := 1) (v := 1) (x_dk dl_0_12_ok 65 rfl) (by decide) (by decide))))
  (x_Tok2
  (x_Lok (x_st (I := xI) (xr_iadd (x_dk dl_0_12_ok 66 rfl))))
  (x_Lok (x_st (I := xI) (xr_sld hS (x_dk dl_0_12_ok 67 rfl)))))))
  (x_Tok2
  (x_Tok2
  (x_Lok (x_st (I := xI) (xr_aload_n (i := 0) (x_dk dl_0_12_ok 68 rfl))))
  (x_Tok2
  (x_Lok (x_st (I := xI) (xr_iload_n (i := 3) (x_dk dl_0_12_ok 69 rfl))))
  (x_Lok (x_st (I := xI) (xr_iconst (n := 2) (z := 2) (v := 2) (x_dk dl_0_12_ok 70 rfl) (by decide) (by decide))))))
  (x_Tok2
  (x_Lok (x_st (I := xI) (xr_iadd (x_dk dl_0_12_ok 71 rfl))))
  (x_Tok2
  (x_Lok (x_st (I := xI) (xr_sld hS (x_dk dl_0_12_ok 72 rfl))))
  (x_Lok (x_ca (I := xI) (q' := m_83) rfl (xr_callV (q' := m_83) (ix := 190) (n := 2) (in_t9 (List.mem_of_getElem? (i := 37) rfl) rfl) good_w (in_t1 (List.mem_of_getElem? (i := 1) rfl) rfl) (in_t9 (List.mem_of_getElem? (i := 34) rfl) rfl) (in_t9 (List.mem_of_getElem? (i := 35) rfl) rfl) (in_t9 (List.mem_of_getElem? (i := 36) rfl) rfl) (by decide +kernel) (by decide +kernel) (by decide +kernel) (x_dk dl_0_12_ok 73 rfl)))))))))
def tb_0_1274 : Nat → xE := (x_T 1896 (x_T 1890 (x_T 1887 (x_T 1886 (x_L 1886 (0, xi_load 2 2 1887, 0, 0)) (x_L 1887 (0, xi_load 0 2 1888, 0, 0))) (x_T 1888 (x_L 1888 (0, xi_load 3 0 1889, 0, 0)) (x_T 1889 (x_L 1889 (0, xi_push (0, 1, 1) 1890, 0, 0)) (x_L 1890 (0, xi_bin xF_add 1891, 0, 0))))) (x_T 1893 (x_T 1891 (x_L 1891 (0, xi_sld 1892, 0, 0)) (x_T 1892 (x_L 1892 (0, xi_load 0 2 1893, 0, 0)) (x_L 1893 (0, xi_load 3 0 1894, 0, 0)))) (x_T 1894 (x_L 1894 (0, xi_push (0, 2, 2) 1895, 0, 0)) (x_T 1895 (x_L 1895 (0, xi_bin xF_add 1896, 0, 0)) (x_L 1896 (0, xi_sld 1897, 0, 0)))))) (x_T 1907 (x_T 1900 (x_T 1897 (x_L 1897 (2, x_nof, 165, 3)) (x_L 1900 (0, xi_if2 0 2142 1903, 0, 0))) (x_T 1905 (x_L 1905 (0, xi_load 1 2 1906, 0, 0)) (x_T 1906 (x_L 1906 (0, xi_load 0 2 1907, 0, 0)) (x_L 1907 (0, xi_load 3 0 1908, 0, 0))))) (x_T 1910 (x_T 1908 (x_L 1908 (0, xi_push (0, 1, 1) 1909, 0, 0)) (x_T 1909 (x_L 1909 (0, xi_bin xF_add 1910, 0, 0)) (x_L 1910 (0, xi_sld 1911, 0, 0)))) (x_T 1911 (x_L 1911 (0, xi_load 0 2 1912, 0, 0)) (x_T 1912 (x_L 1912 (0, xi_load 3 0 1913, 0, 0)) (x_L 1913 (0, xi_push (0, 2, 2) 1914, 0, 0)))))))
set_option maxRecDepth 20000 in
set_option maxHeartbeats 4000000 in
theorem tb_0_1274_ok (K : xKx) (hK : x_KP K) (hS : ∀ R s A H V sc, K R s A H V sc → x_Scr R s A H V sc) : ∀ pc, x_EOq cls K xI m_0 pc (tb_0_1274 pc) :=
  (x_Tok2
  (x_Tok2
  (x_Tok2
  (x_Tok2
  (x_Lok (x_st (I := xI) (xr_aload_n (i := 2) (x_dk dl_0_12_ok 74 rfl))))
  (x_Lok (x_st (I := xI) (xr_aload_n (i := 0) (x_dk dl_0_12_ok 75 rfl)))))
  (x_Tok2
  (x_Lok (x_st (I := xI) (xr_iload_n (i := 3) (x_dk dl_0_12_ok 76 rfl))))
  (x_Tok2
  (x_Lok (x_st (I := xI) (xr_iconst (n := 1) (z := 1) (v := 1) (x_dk dl_0_12_ok 77 rfl) (by decide) (by decide))))
  (x_Lok (x_st (I := xI) (xr_iadd (x_dk dl_0_12_ok 78 rfl)))))))
  (x_Tok2
  (x_Tok2
  (x_Lok (x_st (I := xI) (xr_sld hS (x_dk dl_0_12_ok 79 rfl))))
  (x_Tok2
  (x_Lok (x_st (I := xI) (xr_aload_n (i := 0) (x_dk dl_0_12_ok 80 rfl))))
  (x_Lok (x_st (I := xI) (xr_iload_n (i := 3) (x_dk dl_0_12_ok 81 rfl))))))
  (x_Tok2
  (x_Lok (x_st (I := xI) (xr_iconst (n := 2) (z := 2) (v := 2) (x_dk dl_0_12_ok 82 rfl) (by decide) (by decide))))
  (x_Tok2
  (x_Lok (x_st (I := xI) (xr_iadd (x_dk dl_0_12_ok 83 rfl))))
  (x_Lok (x_st (I := xI) (xr_sld hS (x_dk dl_0_12_ok 84 rfl))))))))
  (x_Tok2
  (x_Tok2
  (x_Tok2
  (x_Lok (x_ca (I := xI) (q' := m_165) rfl (xr_callV (q' := m_165) (ix := 193) (n := 2) (in_t13 (List.mem_of_getElem? (i := 232) rfl) rfl) good_w (in_t1 (List.mem_of_getElem? (i := 14) rfl) rfl) (in_t13 (List.mem_of_getElem? (i := 229) rfl) rfl) (in_t13 (List.mem_of_getElem? (i := 230) rfl) rfl) (in_t13 (List.mem_of_getElem? (i := 231) rfl) rfl) (by decide +kernel) (by decide +kernel) (by decide +kernel) (x_dk dl_0_12_ok 85 rfl))))
  (x_Lok (x_st (I := xI) (xr_icmpeq (off := 242) (tg := 2142) (x_dk dl_0_12_ok 86 rfl) (by decide)))))
  (x_Tok2
  (x_Lok (x_st (I := xI) (xr_aload_n (i := 1) (x_dk dl_0_12_ok 87 rfl))))
  (x_Tok2
  (x_Lok (x_st (I := xI) (xr_aload_n (i := 0) (x_dk dl_0_12_ok 88 rfl))))
  (x_Lok (x_st (I := xI) (xr_iload_n (i := 3) (x_dk dl_0_12_ok 89 rfl)))))))
  (x_Tok2
  (x_Tok2
  (x_Lok (x_st (I := xI) (xr_iconst (n := 1) (z := 1) (v := 1) (x_dk dl_0_12_ok 90 rfl) (by decide) (by decide))))
  (x_Tok2
  (x_Lok (x_st (I := xI) (xr_iadd (x_dk dl_0_12_ok 91 rfl))))
  (x_Lok (x_st (I := xI) (xr_sld hS (x_dk dl_0_12_ok 92 rfl))))))
  (x_Tok2
  (x_Lok (x_st (I := xI) (xr_aload_n (i := 0) (x_dk dl_0_12_ok 93 rfl))))
  (x_Tok2
  (x_Lok (x_st (I := xI) (xr_iload_n (i := 3) (x_dk dl_0_12_ok 94 rfl))))
  (x_Lok (x_st (I := xI) (xr_iconst (n := 2) (z := 2) (v := 2) (x_dk dl_0_12_ok 95 rfl) (by decide) (by decide)))))))))
def tb_0_1296 : Nat → xE := (x_T 1926 (x_T 1920 (x_T 1915 (x_T 1914 (x_L 1914 (0, xi_bin xF_add 1915, 0, 0)) (x_L 1915 (0, xi_sld 1916, 0, 0))) (x_T 1916 (x_L 1916 (2, x_nof, 84, 3)) (x_T 1919 (x_L 1919 (0, xi_load 2 2 1920, 0, 0)) (x_L 1920 (0, xi_load 0 2 1921, 0, 0))))) (x_T 1923 (x_T 1921 (x_L 1921 (0, xi_load 3 0 1922, 0, 0)) (x_T 1922 (x_L 1922 (0, xi_push (0, 1, 1) 1923, 0, 0)) (x_L 1923 (0, xi_bin xF_add 1924, 0, 0)))) (x_T 1924 (x_L 1924 (0, xi_sld 1925, 0, 0)) (x_T 1925 (x_L 1925 (0, xi_load 0 2 1926, 0, 0)) (x_L 1926 (0, xi_load 3 0 1927, 0, 0)))))) (x_T 1938 (x_T 1929 (x_T 1927 (x_L 1927 (0, xi_push (0, 2, 2) 1928, 0, 0)) (x_T 1928 (x_L 1928 (0, xi_bin xF_add 1929, 0, 0)) (x_L 1929 (0, xi_sld 1930, 0, 0)))) (x_T 1930 (x_L 1930 (2, x_nof, 166, 3)) (x_T 1933 (x_L 1933 (0, xi_if2 0 2142 1936, 0, 0)) (x_L 1938 (0, xi_load 1 2 1939, 0, 0))))) (x_T 1941 (x_T 1939 (x_L 1939 (0, xi_load 0 2 1940, 0, 0)) (x_T 1940 (x_L 1940 (0, xi_load 3 0 1941, 0, 0)) (x_L 1941 (0, xi_push (0, 1, 1) 1942, 0, 0)))) (x_T 1942 (x_L 1942 (0, xi_bin xF_add 1943, 0, 0)) (x_T 1943 (x_L 1943 (0, xi_sld 1944, 0, 0)) (x_L 1944 (2, x_nof, 85, 2)))))))
set_option maxRecDepth 20000 in
set_option maxHeartbeats 4000000 in
theorem tb_0_1296_ok (K : xKx) (hK : x_KP K) (hS : ∀ R s A H V sc, K R s A H V sc → x_Scr R s A H V sc) : ∀ pc, x_EOq cls K xI m_0 pc (tb_0_1296 pc) :=
  (x_Tok2
  (x_Tok2
  (x_Tok2
  (x_Tok2
  (x_Lok (x_st (I := xI) (xr_iadd (x_dk dl_0_12_ok 96 rfl))))
  (x_Lok (x_st (I := xI) (xr_sld hS (x_dk dl_0_12_ok 97 rfl)))))
  (x_Tok2
  (x_Lok (x_ca (I := xI) (q' := m_84) rfl (xr_callV (q' := m_84) (ix := 194) (n := 2) (in_t9 (List.mem_of_getElem? (i := 41) rfl) rfl) good_w (in_t1 (List.mem_of_getElem? (i := 1) rfl) rfl) (in_t9 (List.mem_of_getElem? (i := 38) rfl) rfl) (in_t9 (List.mem_of_getElem? (i := 39) rfl) rfl) (in_t9 (List.mem_of_getElem? (i := 40) rfl) rfl) (by decide +kernel) (by decide +kernel) (by decide +kernel) (x_dk dl_0_12_ok 98 rfl))))
  (x_Tok2
  (x_Lok (x_st (I := xI) (xr_aload_n (i := 2) (x_dk dl_0_12_ok 99 rfl))))
  (x_Lok (x_st (I := xI) (xr_aload_n (i := 0) (x_dk dl_0_13_ok 0 rfl)))))))
  (x_Tok2
  (x_Tok2
  (x_Lok (x_st (I := xI) (xr_iload_n (i := 3) (x_dk dl_0_13_ok 1 rfl))))
  (x_Tok2
  (x_Lok (x_st (I := xI) (xr_iconst (n := 1) (z := 1) (v := 1) (x_dk dl_0_13_ok 2 rfl) (by decide) (by decide))))
  (x_Lok (x_st (I := xI) (xr_iadd (x_dk dl_0_13_ok 3 rfl))))))
  (x_Tok2
  (x_Lok (x_st (I := xI) (xr_sld hS (x_dk dl_0_13_ok 4 rfl))))
  (x_Tok2
  (x_Lok (x_st (I := xI) (xr_aload_n (i := 0) (x_dk dl_0_13_ok 5 rfl))))
  (x_Lok (x_st (I := xI) (xr_iload_n (i := 3) (x_dk dl_0_13_ok 6 rfl))))))))
  (x_Tok2
  (x_Tok2
  (x_Tok2
  (x_Lok (x_st (I := xI) (xr_iconst (n := 2) (z := 2) (v := 2) (x_dk dl_0_13_ok 7 rfl) (by decide) (by decide))))
  (x_Tok2
  (x_Lok (x_st (I := xI) (xr_iadd (x_dk dl_0_13_ok 8 rfl))))
  (x_Lok (x_st (I := xI) (xr_sld hS (x_dk dl_0_13_ok 9 rfl))))))
  (x_Tok2
  (x_Lok (x_ca (I := xI) (q' := m_166) rfl (xr_callV (q' := m_166) (ix := 197) (n := 2) (in_t13 (List.mem_of_getElem? (i := 236) rfl) rfl) good_w (in_t1 (List.mem_of_getElem? (i := 14) rfl) rfl) (in_t13 (List.mem_of_getElem? (i := 233) rfl) rfl) (in_t13 (List.mem_of_getElem? (i := 234) rfl) rfl) (in_t13 (List.mem_of_getElem? (i := 235) rfl) rfl) (by decide +kernel) (by decide +kernel) (by decide +kernel) (x_dk dl_0_13_ok 10 rfl))))
  (x_Tok2
  (x_Lok (x_st (I := xI) (xr_icmpeq (off := 209) (tg := 2142) (x_dk dl_0_13_ok 11 rfl) (by decide))))
  (x_Lok (x_st (I := xI) (xr_aload_n (i := 1) (x_dk dl_0_13_ok 12 rfl)))))))
  (x_Tok2
  (x_Tok2
  (x_Lok (x_st (I := xI) (xr_aload_n (i := 0) (x_dk dl_0_13_ok 13 rfl))))
  (x_Tok2
  (x_Lok (x_st (I := xI) (xr_iload_n (i := 3) (x_dk dl_0_13_ok 14 rfl))))
  (x_Lok (x_st (I := xI) (xr_iconst (n := 1) (z := 1) (v := 1) (x_dk dl_0_13_ok 15 rfl) (by decide) (by decide))))))
  (x_Tok2
  (x_Lok (x_st (I := xI) (xr_iadd (x_dk dl_0_13_ok 16 rfl))))
  (x_Tok2
  (x_Lok (x_st (I := xI) (xr_sld hS (x_dk dl_0_13_ok 17 rfl))))
  (x_Lok (x_ca (I := xI) (q' := m_85) rfl (xr_callV (q' := m_85) (ix := 198) (n := 1) (in_t9 (List.mem_of_getElem? (i := 45) rfl) rfl) good_w (in_t1 (List.mem_of_getElem? (i := 1) rfl) rfl) (in_t9 (List.mem_of_getElem? (i := 42) rfl) rfl) (in_t9 (List.mem_of_getElem? (i := 43) rfl) rfl) (in_t9 (List.mem_of_getElem? (i := 44) rfl) rfl) (by decide +kernel) (by decide +kernel) (by decide +kernel) (x_dk dl_0_13_ok 18 rfl)))))))))
def tb_0_1319 : Nat → xE := (x_T 1963 (x_T 1951 (x_T 1948 (x_T 1947 (x_L 1947 (0, xi_load 2 2 1948, 0, 0)) (x_L 1948 (0, xi_load 0 2 1949, 0, 0))) (x_T 1949 (x_L 1949 (0, xi_load 3 0 1950, 0, 0)) (x_T 1950 (x_L 1950 (0, xi_push (0, 1, 1) 1951, 0, 0)) (x_L 1951 (0, xi_bin xF_add 1952, 0, 0))))) (x_T 1956 (x_T 1952 (x_L 1952 (0, xi_sld 1953, 0, 0)) (x_T 1953 (x_L 1953 (2, x_nof, 167, 2)) (x_L 1956 (0, xi_if2 0 2142 1959, 0, 0)))) (x_T 1961 (x_L 1961 (0, xi_load 1 2 1962, 0, 0)) (x_T 1962 (x_L 1962 (0, xi_load 0 2 1963, 0, 0)) (x_L 1963 (0, xi_load 3 0 1964, 0, 0)))))) (x_T 1969 (x_T 1966 (x_T 1964 (x_L 1964 (0, xi_push (0, 1, 1) 1965, 0, 0)) (x_T 1965 (x_L 1965 (0, xi_bin xF_add 1966, 0, 0)) (x_L 1966 (0, xi_sld 1967, 0, 0)))) (x_T 1967 (x_L 1967 (0, xi_load 0 2 1968, 0, 0)) (x_T 1968 (x_L 1968 (0, xi_load 3 0 1969, 0, 0)) (x_L 1969 (0, xi_push (0, 2, 2) 1970, 0, 0))))) (x_T 1972 (x_T 1970 (x_L 1970 (0, xi_bin xF_add 1971, 0, 0)) (x_T 1971 (x_L 1971 (0, xi_sld 1972, 0, 0)) (x_L 1972 (2, x_nof, 86, 3)))) (x_T 1975 (x_L 1975 (0, xi_load 2 2 1976, 0, 0)) (x_T 1976 (x_L 1976 (0, xi_load 0 2 1977, 0, 0)) (x_L 1977 (0, xi_load 3 0 1978, 0, 0)))))))
set_option maxRecDepth 20000 in
set_option maxHeartbeats 4000000 in
theorem tb_0_1319_ok (K : xKx) (hK : x_KP K) (hS : ∀ R s A H V sc, K R s A H V sc → x_Scr R s A H V sc) : ∀ pc, x_EOq cls K xI m_0 pc (tb_0_1319 pc) :=
  (x_Tok2
  (x_Tok2
  (x_Tok2
  (x_Tok2
  (x_Lok (x_st (I := xI) (xr_aload_n (i := 2) (x_dk dl_0_13_ok 19 rfl))))
  (x_Lok (x_st (I := xI) (xr_aload_n (i := 0) (x_dk dl_0_13_ok 20 rfl)))))
  (x_Tok2
  (x_Lok (x_st (I := xI) (xr_iload_n (i := 3) (x_dk dl_0_13_ok 21 rfl))))
  (x_Tok2
  (x_Lok (x_st (I := xI) (xr_iconst (n := 1) (z := 1) (v := 1) (x_dk dl_0_13_ok 22 rfl) (by decide) (by decide))))
  (x_Lok (x_st (I := xI) (xr_iadd (x_dk dl_0_13_ok 23 rfl)))))))
  (x_Tok2
  (x_Tok2
  (x_Lok (x_st (I := xI) (xr_sld hS (x_dk dl_0_13_ok 24 rfl))))
  (x_Tok2
  (x_Lok (x_ca (I := xI) (q' := m_167) rfl (xr_callV (q' := m_167) (ix := 201) (n := 1) (in_t14 (List.mem_of_getElem? (i := 0) rfl) rfl) good_w (in_t1 (List.mem_of_getElem? (i := 14) rfl) rfl) (in_t13 (List.mem_of_getElem? (i := 237) rfl) rfl) (in_t13 (List.mem_of_getElem? (i := 238) rfl) rfl) (in_t13 (List.mem_of_getElem? (i := 239) rfl) rfl) (by decide +kernel) (by decide +kernel) (by decide +kernel) (x_dk dl_0_13_ok 25 rfl))))
  (x_Lok (x_st (I := xI) (xr_icmpeq (off := 186) (tg := 2142) (x_dk dl_0_13_ok 26 rfl) (by decide))))))
  (x_Tok2
  (x_Lok (x_st (I := xI) (xr_aload_n (i := 1) (x_dk dl_0_13_ok 27 rfl))))
  (x_Tok2
  (x_Lok (x_st (I := xI) (xr_aload_n (i := 0) (x_dk dl_0_13_ok 28 rfl))))
  (x_Lok (x_st (I := xI) (xr_iload_n (i := 3) (x_dk dl_0_13_ok 29 rfl))))))))
  (x_Tok2
  (x_Tok2
  (x_Tok2
  (x_Lok (x_st (I := xI) (xr_iconst (n := 1) (z := 1) (v := 1) (x_dk dl_0_13_ok 30 rfl) (by decide) (by decide))))
  (x_Tok2
  (x_Lok (x_st (I := xI) (xr_iadd (x_dk dl_0_13_ok 31 rfl))))
  (x_Lok (x_st (I := xI) (xr_sld hS (x_dk dl_0_13_ok 32 rfl))))))
  (x_Tok2
  (x_Lok (x_st (I := xI) (xr_aload_n (i := 0) (x_dk dl_0_13_ok 33 rfl))))
  (x_Tok2
  (x_Lok (x_st (I := xI) (xr_iload_n (i := 3) (x_dk dl_0_13_ok 34 rfl))))
  (x_Lok (x_st (I := xI) (xr_iconst (n := 2) (z := 2) (v := 2) (x_dk dl_0_13_ok 35 rfl) (by decide) (by decide)))))))
  (x_Tok2
  (x_Tok2
  (x_Lok (x_st (I := xI) (xr_iadd (x_dk dl_0_13_ok 36 rfl))))
  (x_Tok2
  (x_Lok (x_st (I := xI) (xr_sld hS (x_dk dl_0_13_ok 37 rfl))))
  (x_Lok (x_ca (I := xI) (q' := m_86) rfl (xr_callV (q' := m_86) (ix := 202) (n := 2) (in_t9 (List.mem_of_getElem? (i := 49) rfl) rfl) good_w (in_t1 (List.mem_of_getElem? (i := 1) rfl) rfl) (in_t9 (List.mem_of_getElem? (i := 46) rfl) rfl) (in_t9 (List.mem_of_getElem? (i := 47) rfl) rfl) (in_t9 (List.mem_of_getElem? (i := 48) rfl) rfl) (by decide +kernel) (by decide +kernel) (by decide +kernel) (x_dk dl_0_13_ok 38 rfl))))))
  (x_Tok2
  (x_Lok (x_st (I := xI) (xr_aload_n (i := 2) (x_dk dl_0_13_ok 39 rfl))))
  (x_Tok2
  (x_Lok (x_st (I := xI) (xr_aload_n (i := 0) (x_dk dl_0_13_ok 40 rfl))))
  (x_Lok (x_st (I := xI) (xr_iload_n (i := 3) (x_dk dl_0_13_ok 41 rfl)))))))))
def tb_0_1342 : Nat → xE := (x_T 1994 (x_T 1982 (x_T 1979 (x_T 1978 (x_L 1978 (0, xi_push (0, 1, 1) 1979, 0, 0)) (x_L 1979 (0, xi_bin xF_add 1980, 0, 0))) (x_T 1980 (x_L 1980 (0, xi_sld 1981, 0, 0)) (x_T 1981 (x_L 1981 (0, xi_load 0 2 1982, 0, 0)) (x_L 1982 (0, xi_load 3 0 1983, 0, 0))))) (x_T 1985 (x_T 1983 (x_L 1983 (0, xi_push (0, 2, 2) 1984, 0, 0)) (x_T 1984 (x_L 1984 (0, xi_bin xF_add 1985, 0, 0)) (x_L 1985 (0, xi_sld 1986, 0, 0)))) (x_T 1986 (x_L 1986 (2, x_nof, 168, 3)) (x_T 1989 (x_L 1989 (0, xi_if2 0 2142 1992, 0, 0)) (x_L 1994 (0, xi_load 1 2 1995, 0, 0)))))) (x_T 2000 (x_T 1997 (x_T 1995 (x_L 1995 (0, xi_load 0 2 1996, 0, 0)) (x_T 1996 (x_L 1996 (0, xi_load 3 0 1997, 0, 0)) (x_L 1997 (0, xi_push (0, 1, 1) 1998, 0, 0)))) (x_T 1998 (x_L 1998 (0, xi_bin xF_add 1999, 0, 0)) (x_T 1999 (x_L 1999 (0, xi_sld 2000, 0, 0)) (x_L 2000 (2, x_nof, 87, 2))))) (x_T 2005 (x_T 2003 (x_L 2003 (0, xi_load 2 2 2004, 0, 0)) (x_T 2004 (x_L 2004 (0, xi_load 0 2 2005, 0, 0)) (x_L 2005 (0, xi_load 3 0 2006, 0, 0)))) (x_T 2006 (x_L 2006 (0, xi_push (0, 1, 1) 2007, 0, 0)) (x_T 2007 (x_L 2007 (0, xi_bin xF_add 2008, 0, 0)) (x_L 2008 (0, xi_sld 2009, 0, 0)))))))
set_option maxRecDepth 20000 in
set_option maxHeartbeats 4000000 in
theorem tb_0_1342_ok (K : xKx) (hK : x_KP K) (hS : ∀ R s A H V sc, K R s A H V sc → x_Scr R s A H V sc) : ∀ pc, x_EOq cls K xI m_0 pc (tb_0_1342 pc) :=
  (x_Tok2
  (x_Tok2
  (x_Tok2
  (x_Tok2
  (x_Lok (x_st (I := xI) (xr_iconst (n := 1) (z := 1) (v := 1) (x_dk dl_0_13_ok 42 rfl) (by decide) (by decide))))
  (x_Lok (x_st (I := xI) (xr_iadd (x_dk dl_0_13_ok 43 rfl)))))
  (x_Tok2
  (x_Lok (x_st (I := xI) (xr_sld hS (x_dk dl_0_13_ok 44 rfl))))
  (x_Tok2
  (x_Lok (x_st (I := xI) (xr_aload_n (i := 0) (x_dk dl_0_13_ok 45 rfl))))
  (x_Lok (x_st (I := xI) (xr_iload_n (i := 3) (x_dk dl_0_13_ok 46 rfl)))))))
  (x_Tok2
  (x_Tok2
  (x_Lok (x_st (I := xI) (xr_iconst (n := 2) (z := 2) (v := 2) (x_dk dl_0_13_ok 47 rfl) (by decide) (by decide))))
  (x_Tok2
  (x_Lok (x_st (I := xI) (xr_iadd (x_dk dl_0_13_ok 48 rfl))))
  (x_Lok (x_st (I := xI) (xr_sld hS (x_dk dl_0_13_ok 49 rfl))))))
  (x_Tok2
  (x_Lok (x_ca (I := xI) (q' := m_168) rfl (xr_callV (q' := m_168) (ix := 205) (n := 2) (in_t14 (List.mem_of_getElem? (i := 4) rfl) rfl) good_w (in_t1 (List.mem_of_getElem? (i := 14) rfl) rfl) (in_t14 (List.mem_of_getElem? (i := 1) rfl) rfl) (in_t14 (List.mem_of_getElem? (i := 2) rfl) rfl) (in_t14 (List.mem_of_getElem? (i := 3) rfl) rfl) (by decide +kernel) (by decide +kernel) (by decide +kernel) (x_dk dl_0_13_ok 50 rfl))))
  (x_Tok2
  (x_Lok (x_st (I := xI) (xr_icmpeq (off := 153) (tg := 2142) (x_dk dl_0_13_ok 51 rfl) (by decide))))
  (x_Lok (x_st (I := xI) (xr_aload_n (i := 1) (x_dk dl_0_13_ok 52 rfl))))))))
  (x_Tok2
  (x_Tok2
  (x_Tok2
  (x_Lok (x_st (I := xI) (xr_aload_n (i := 0) (x_dk dl_0_13_ok 53 rfl))))
  (x_Tok2
  (x_Lok (x_st (I := xI) (xr_iload_n (i := 3) (x_dk dl_0_13_ok 54 rfl))))
  (x_Lok (x_st (I := xI) (xr_iconst (n := 1) (z := 1) (v := 1) (x_dk dl_0_13_ok 55 rfl) (by decide) (by decide))))))
  (x_Tok2
  (x_Lok (x_st (I := xI) (xr_iadd (x_dk dl_0_13_ok 56 rfl))))
  (x_Tok2
  (x_Lok (x_st (I := xI) (xr_sld hS (x_dk dl_0_13_ok 57 rfl))))
  (x_Lok (x_ca (I := xI) (q' := m_87) rfl (xr_callV (q' := m_87) (ix := 206) (n := 1) (in_t9 (List.mem_of_getElem? (i := 55) rfl) rfl) good_w (in_t1 (List.mem_of_getElem? (i := 1) rfl) rfl) (in_t9 (List.mem_of_getElem? (i := 52) rfl) rfl) (in_t9 (List.mem_of_getElem? (i := 53) rfl) rfl) (in_t9 (List.mem_of_getElem? (i := 54) rfl) rfl) (by decide +kernel) (by decide +kernel) (by decide +kernel) (x_dk dl_0_13_ok 58 rfl)))))))
  (x_Tok2
  (x_Tok2
  (x_Lok (x_st (I := xI) (xr_aload_n (i := 2) (x_dk dl_0_13_ok 59 rfl))))
  (x_Tok2
  (x_Lok (x_st (I := xI) (xr_aload_n (i := 0) (x_dk dl_0_13_ok 60 rfl))))
  (x_Lok (x_st (I := xI) (xr_iload_n (i := 3) (x_dk dl_0_13_ok 61 rfl))))))
  (x_Tok2
  (x_Lok (x_st (I := xI) (xr_iconst (n := 1) (z := 1) (v := 1) (x_dk dl_0_13_ok 62 rfl) (by decide) (by decide))))
  (x_Tok2
  (x_Lok (x_st (I := xI) (xr_iadd (x_dk dl_0_13_ok 63 rfl))))
  (x_Lok (x_st (I := xI) (xr_sld hS (x_dk dl_0_13_ok 64 rfl)))))))))
def tb_0_1365 : Nat → xE := (x_T 2033 (x_T 2021 (x_T 2012 (x_T 2009 (x_L 2009 (2, x_nof, 169, 2)) (x_L 2012 (0, xi_if2 0 2142 2015, 0, 0))) (x_T 2017 (x_L 2017 (0, xi_load 1 2 2018, 0, 0)) (x_T 2018 (x_L 2018 (2, x_nof, 88, 1)) (x_L 2021 (0, xi_load 2 2 2022, 0, 0))))) (x_T 2030 (x_T 2022 (x_L 2022 (2, x_nof, 170, 1)) (x_T 2025 (x_L 2025 (0, xi_if2 0 2142 2028, 0, 0)) (x_L 2030 (0, xi_load 1 2 2031, 0, 0)))) (x_T 2031 (x_L 2031 (0, xi_load 0 2 2032, 0, 0)) (x_T 2032 (x_L 2032 (0, xi_load 3 0 2033, 0, 0)) (x_L 2033 (0, xi_push (0, 1, 1) 2034, 0, 0)))))) (x_T 2038 (x_T 2035 (x_T 2034 (x_L 2034 (0, xi_bin xF_add 2035, 0, 0)) (x_L 2035 (0, xi_sld 2036, 0, 0))) (x_T 2036 (x_L 2036 (0, xi_load 0 2 2037, 0, 0)) (x_T 2037 (x_L 2037 (0, xi_load 3 0 2038, 0, 0)) (x_L 2038 (0, xi_push (0, 2, 2) 2039, 0, 0))))) (x_T 2041 (x_T 2039 (x_L 2039 (0, xi_bin xF_add 2040, 0, 0)) (x_T 2040 (x_L 2040 (0, xi_sld 2041, 0, 0)) (x_L 2041 (2, x_nof, 89, 3)))) (x_T 2044 (x_L 2044 (0, xi_load 2 2 2045, 0, 0)) (x_T 2045 (x_L 2045 (0, xi_load 0 2 2046, 0, 0)) (x_L 2046 (0, xi_load 3 0 2047, 0, 0)))))))
set_option maxRecDepth 20000 in
set_option maxHeartbeats 4000000 in
theorem tb_0_1365_ok (K : xKx) (hK : x_KP K) (hS : ∀ R s A H V sc, K R s A H V sc → x_Scr R s A H V sc) : ∀ pc, x_EOq cls K xI m_0 pc (tb_0_1365 pc) :=
  (x_Tok2
  (x_Tok2
  (x_Tok2
  (x_Tok2
  (x_Lok (x_ca (I := xI) (q' := m_169) rfl (xr_callV (q' := m_169) (ix := 209) (n := 1) (in_t14 (List.mem_of_getElem? (i := 8) rfl) rfl) good_w (in_t1 (List.mem_of_getElem? (i := 14) rfl) rfl) (in_t14 (List.mem_of_getElem? (i := 5) rfl) rfl) (in_t14 (List.mem_of_getElem? (i := 6) rfl) rfl) (in_t14 (List.mem_of_getElem? (i := 7) rfl) rfl) (by decide +kernel) (by decide +kernel) (by decide +kernel) (x_dk dl_0_13_ok 65 rfl))))
  (x_Lok (x_st (I := xI) (xr_icmpeq (off := 130) (tg := 2142) (x_dk dl_0_13_ok 66 rfl) (by decide)))))
  (x_Tok2
  (x_Lok (x_st (I := xI) (xr_aload_n (i := 1) (x_dk dl_0_13_ok 67 rfl))))
  (x_Tok2
  (x_Lok (x_ca (I := xI) (q' := m_88) rfl (xr_callV (q' := m_88) (ix := 210) (n := 0) (in_t9 (List.mem_of_getElem? (i := 63) rfl) rfl) good_w (in_t1 (List.mem_of_getElem? (i := 1) rfl) rfl) (in_t9 (List.mem_of_getElem? (i := 60) rfl) rfl) (in_t9 (List.mem_of_getElem? (i := 61) rfl) rfl) (in_t9 (List.mem_of_getElem? (i := 62) rfl) rfl) (by decide +kernel) (by decide +kernel) (by decide +kernel) (x_dk dl_0_13_ok 68 rfl))))
  (x_Lok (x_st (I := xI) (xr_aload_n (i := 2) (x_dk dl_0_13_ok 69 rfl)))))))
  (x_Tok2
  (x_Tok2
  (x_Lok (x_ca (I := xI) (q' := m_170) rfl (xr_callV (q' := m_170) (ix := 213) (n := 0) (in_t14 (List.mem_of_getElem? (i := 12) rfl) rfl) good_w (in_t1 (List.mem_of_getElem? (i := 14) rfl) rfl) (in_t14 (List.mem_of_getElem? (i := 9) rfl) rfl) (in_t14 (List.mem_of_getElem? (i := 10) rfl) rfl) (in_t14 (List.mem_of_getElem? (i := 11) rfl) rfl) (by decide +kernel) (by decide +kernel) (by decide +kernel) (x_dk dl_0_13_ok 70 rfl))))
  (x_Tok2
  (x_Lok (x_st (I := xI) (xr_icmpeq (off := 117) (tg := 2142) (x_dk dl_0_13_ok 71 rfl) (by decide))))
  (x_Lok (x_st (I := xI) (xr_aload_n (i := 1) (x_dk dl_0_13_ok 72 rfl))))))
  (x_Tok2
  (x_Lok (x_st (I := xI) (xr_aload_n (i := 0) (x_dk dl_0_13_ok 73 rfl))))
  (x_Tok2
  (x_Lok (x_st (I := xI) (xr_iload_n (i := 3) (x_dk dl_0_13_ok 74 rfl))))
  (x_Lok (x_st (I := xI) (xr_iconst (n := 1) (z := 1) (v := 1) (x_dk dl_0_13_ok 75 rfl) (by decide) (by decide))))))))
  (x_Tok2
  (x_Tok2
  (x_Tok2
  (x_Lok (x_st (I := xI) (xr_iadd (x_dk dl_0_13_ok 76 rfl))))
  (x_Lok (x_st (I := xI) (xr_sld hS (x_dk dl_0_13_ok 77 rfl)))))
  (x_Tok2
  (x_Lok (x_st (I := xI) (xr_aload_n (i := 0) (x_dk dl_0_13_ok 78 rfl))))
  (x_Tok2
  (x_Lok (x_st (I := xI) (xr_iload_n (i := 3) (x_dk dl_0_13_ok 79 rfl))))
  (x_Lok (x_st (I := xI) (xr_iconst (n := 2) (z := 2) (v := 2) (x_dk dl_0_13_ok 80 rfl) (by decide) (by decide)))))))
  (x_Tok2
  (x_Tok2
  (x_Lok (x_st (I := xI) (xr_iadd (x_dk dl_0_13_ok 81 rfl))))
  (x_Tok2
  (x_Lok (x_st (I := xI) (xr_sld hS (x_dk dl_0_13_ok 82 rfl))))
  (x_Lok (x_ca (I := xI) (q' := m_89) rfl (xr_callV (q' := m_89) (ix := 214) (n := 2) (in_t9 (List.mem_of_getElem? (i := 67) rfl) rfl) good_w (in_t1 (List.mem_of_getElem? (i := 1) rfl) rfl) (in_t9 (List.mem_of_getElem? (i := 64) rfl) rfl) (in_t9 (List.mem_of_getElem? (i := 65) rfl) rfl) (in_t9 (List.mem_of_getElem? (i := 66) rfl) rfl) (by decide +kernel) (by decide +kernel) (by decide +kernel) (x_dk dl_0_13_ok 83 rfl))))))
  (x_Tok2
  (x_Lok (x_st (I := xI) (xr_aload_n (i := 2) (x_dk dl_0_13_ok 84 rfl))))
  (x_Tok2
  (x_Lok (x_st (I := xI) (xr_aload_n (i := 0) (x_dk dl_0_13_ok 85 rfl))))
  (x_Lok (x_st (I := xI) (xr_iload_n (i := 3) (x_dk dl_0_13_ok 86 rfl)))))))))
def tb_0_1387 : Nat → xE := (x_T 2063 (x_T 2051 (x_T 2048 (x_T 2047 (x_L 2047 (0, xi_push (0, 1, 1) 2048, 0, 0)) (x_L 2048 (0, xi_bin xF_add 2049, 0, 0))) (x_T 2049 (x_L 2049 (0, xi_sld 2050, 0, 0)) (x_T 2050 (x_L 2050 (0, xi_load 0 2 2051, 0, 0)) (x_L 2051 (0, xi_load 3 0 2052, 0, 0))))) (x_T 2054 (x_T 2052 (x_L 2052 (0, xi_push (0, 2, 2) 2053, 0, 0)) (x_T 2053 (x_L 2053 (0, xi_bin xF_add 2054, 0, 0)) (x_L 2054 (0, xi_sld 2055, 0, 0)))) (x_T 2055 (x_L 2055 (2, x_nof, 171, 3)) (x_T 2058 (x_L 2058 (0, xi_if2 0 2142 2061, 0, 0)) (x_L 2063 (0, xi_load 1 2 2064, 0, 0)))))) (x_T 2069 (x_T 2066 (x_T 2064 (x_L 2064 (0, xi_load 0 2 2065, 0, 0)) (x_T 2065 (x_L 2065 (0, xi_load 3 0 2066, 0, 0)) (x_L 2066 (0, xi_push (0, 1, 1) 2067, 0, 0)))) (x_T 2067 (x_L 2067 (0, xi_bin xF_add 2068, 0, 0)) (x_T 2068 (x_L 2068 (0, xi_sld 2069, 0, 0)) (x_L 2069 (0, xi_load 0 2 2070, 0, 0))))) (x_T 2072 (x_T 2070 (x_L 2070 (0, xi_load 3 0 2071, 0, 0)) (x_T 2071 (x_L 2071 (0, xi_push (0, 2, 2) 2072, 0, 0)) (x_L 2072 (0, xi_bin xF_add 2073, 0, 0)))) (x_T 2073 (x_L 2073 (0, xi_sld 2074, 0, 0)) (x_T 2074 (x_L 2074 (2, x_nof, 90, 3)) (x_L 2077 (0, xi_load 2 2 2078, 0, 0)))))))
set_option maxRecDepth 20000 in
set_option maxHeartbeats 4000000 in
theorem tb_0_1387_ok (K : xKx) (hK : x_KP K) (hS : ∀ R s A H V sc, K R s A H V sc → x_Scr R s A H V sc) : ∀ pc, x_EOq cls K xI m_0 pc (tb_0_1387 pc) :=
  (x_Tok2
  (x_Tok2
  (x_Tok2
  (x_Tok2
  (x_Lok (x_st (I := xI) (xr_iconst (n := 1) (z := 1) (v := 1) (x_dk dl_0_13_ok 87 rfl) (by decide) (by decide))))
  (x_Lok (x_st (I := xI) (xr_iadd (x_dk dl_0_13_ok 88 rfl)))))
  (x_Tok2
  (x_Lok (x_st (I := xI) (xr_sld hS (x_dk dl_0_13_ok 89 rfl))))
  (x_Tok2
  (x_Lok (x_st (I := xI) (xr_aload_n (i := 0) (x_dk dl_0_13_ok 90 rfl))))
  (x_Lok (x_st (I := xI) (xr_iload_n (i := 3) (x_dk dl_0_13_ok 91 rfl)))))))
  (x_Tok2
  (x_Tok2
  (x_Lok (x_st (I := xI) (xr_iconst (n := 2) (z := 2) (v := 2) (x_dk dl_0_13_ok 92 rfl) (by decide) (by decide))))
  (x_Tok2
  (x_Lok (x_st (I := xI) (xr_iadd (x_dk dl_0_13_ok 93 rfl))))
  (x_Lok (x_st (I := xI) (xr_sld hS (x_dk dl_0_13_ok 94 rfl))))))
  (x_Tok2
  (x_Lok (x_ca (I := xI) (q' := m_171) rfl (xr_callV (q' := m_171) (ix := 217) (n := 2) (in_t14 (List.mem_of_getElem? (i := 16) rfl) rfl) good_w (in_t1 (List.mem_of_getElem? (i := 14) rfl) rfl) (in_t14 (List.mem_of_getElem? (i := 13) rfl) rfl) (in_t14 (List.mem_of_getElem? (i := 14) rfl) rfl) (in_t14 (List.mem_of_getElem? (i := 15) rfl) rfl) (by decide +kernel) (by decide +kernel) (by decide +kernel) (x_dk dl_0_13_ok 95 rfl))))
  (x_Tok2
  (x_Lok (x_st (I := xI) (xr_icmpeq (off := 84) (tg := 2142) (x_dk dl_0_13_ok 96 rfl) (by decide))))
  (x_Lok (x_st (I := xI) (xr_aload_n (i := 1) (x_dk dl_0_13_ok 97 rfl))))))))
  (x_Tok2
  (x_Tok2
  (x_Tok2
  (x_Lok (x_st (I := xI) (xr_aload_n (i := 0) (x_dk dl_0_13_ok 98 rfl))))
  (x_Tok2
  (x_Lok (x_st (I := xI) (xr_iload_n (i := 3) (x_dk dl_0_13_ok 99 rfl))))
  (x_Lok (x_st (I := xI) (xr_iconst (n := 1) (z := 1) (v := 1) (x_dk dl_0_14_ok 0 rfl) (by decide) (by decide))))))
  (x_Tok2
  (x_Lok (x_st (I := xI) (xr_iadd (x_dk dl_0_14_ok 1 rfl))))
  (x_Tok2
  (x_Lok (x_st (I := xI) (xr_sld hS (x_dk dl_0_14_ok 2 rfl))))
  (x_Lok (x_st (I := xI) (xr_aload_n (i := 0) (x_dk dl_0_14_ok 3 rfl)))))))
  (x_Tok2
  (x_Tok2
  (x_Lok (x_st (I := xI) (xr_iload_n (i := 3) (x_dk dl_0_14_ok 4 rfl))))
  (x_Tok2
  (x_Lok (x_st (I := xI) (xr_iconst (n := 2) (z := 2) (v := 2) (x_dk dl_0_14_ok 5 rfl) (by decide) (by decide))))
  (x_Lok (x_st (I := xI) (xr_iadd (x_dk dl_0_14_ok 6 rfl))))))
  (x_Tok2
  (x_Lok (x_st (I := xI) (xr_sld hS (x_dk dl_0_14_ok 7 rfl))))
  (x_Tok2
  (x_Lok (x_ca (I := xI) (q' := m_90) rfl (xr_callV (q' := m_90) (ix := 218) (n := 2) (in_t9 (List.mem_of_getElem? (i := 71) rfl) rfl) good_w (in_t1 (List.mem_of_getElem? (i := 1) rfl) rfl) (in_t9 (List.mem_of_getElem? (i := 68) rfl) rfl) (in_t9 (List.mem_of_getElem? (i := 69) rfl) rfl) (in_t9 (List.mem_of_getElem? (i := 70) rfl) rfl) (by decide +kernel) (by decide +kernel) (by decide +kernel) (x_dk dl_0_14_ok 8 rfl))))
  (x_Lok (x_st (I := xI) (xr_aload_n (i := 2) (x_dk dl_0_14_ok 9 rfl)))))))))
def tb_0_1410 : Nat → xE := (x_T 2088 (x_T 2082 (x_T 2079 (x_T 2078 (x_L 2078 (0, xi_load 0 2 2079, 0, 0)) (x_L 2079 (0, xi_load 3 0 2080, 0, 0))) (x_T 2080 (x_L 2080 (0, xi_push (0, 1, 1) 2081, 0, 0)) (x_T 2081 (x_L 2081 (0, xi_bin xF_add 2082, 0, 0)) (x_L 2082 (0, xi_sld 2083, 0, 0))))) (x_T 2085 (x_T 2083 (x_L 2083 (0, xi_load 0 2 2084, 0, 0)) (x_T 2084 (x_L 2084 (0, xi_load 3 0 2085, 0, 0)) (x_L 2085 (0, xi_push (0, 2, 2) 2086, 0, 0)))) (x_T 2086 (x_L 2086 (0, xi_bin xF_add 2087, 0, 0)) (x_T 2087 (x_L 2087 (0, xi_sld 2088, 0, 0)) (x_L 2088 (2, x_nof, 139, 3)))))) (x_T 2100 (x_T 2097 (x_T 2091 (x_L 2091 (0, xi_if2 0 2142 2094, 0, 0)) (x_T 2096 (x_L 2096 (0, xi_load 1 2 2097, 0, 0)) (x_L 2097 (0, xi_load 0 2 2098, 0, 0)))) (x_T 2098 (x_L 2098 (0, xi_load 3 0 2099, 0, 0)) (x_T 2099 (x_L 2099 (0, xi_push (0, 1, 1) 2100, 0, 0)) (x_L 2100 (0, xi_bin xF_add 2101, 0, 0))))) (x_T 2105 (x_T 2101 (x_L 2101 (0, xi_sld 2102, 0, 0)) (x_T 2102 (x_L 2102 (2, x_nof, 91, 2)) (x_L 2105 (0, xi_load 2 2 2106, 0, 0)))) (x_T 2106 (x_L 2106 (0, xi_load 0 2 2107, 0, 0)) (x_T 2107 (x_L 2107 (0, xi_load 3 0 2108, 0, 0)) (x_L 2108 (0, xi_push (0, 1, 1) 2109, 0, 0)))))))
set_option maxRecDepth 20000 in
set_option maxHeartbeats 4000000 in
theorem tb_0_1410_ok (K : xKx) (hK : x_KP K) (hS : ∀ R s A H V sc, K R s A H V sc → x_Scr R s A H V sc) : ∀ pc, x_EOq cls K xI m_0 pc (tb_0_1410 pc) :=
  (x_Tok2
  (x_Tok2
  (x_Tok2
  (x_Tok2
  (x_Lok (x_st (I := xI) (xr_aload_n (i := 0) (x_dk dl_0_14_ok 10 rfl))))
  (x_Lok (x_st (I := xI) (xr_iload_n (i := 3) (x_dk dl_0_14_ok 11 rfl)))))
  (x_Tok2
  (x_Lok (x_st (I := xI) (xr_iconst (n := 1) (z := 1) (v := 1) (x_dk dl_0_14_ok 12 rfl) (by decide) (by decide))))
  (x_Tok2
  (x_Lok (x_st (I := xI) (xr_iadd (x_dk dl_0_14_ok 13 rfl))))
  (x_Lok (x_st (I := xI) (xr_sld hS (x_dk dl_0_14_ok 14 rfl)))))))
  (x_Tok2
  (x_Tok2
  (x_Lok (x_st (I := xI) (xr_aload_n (i := 0) (x_dk dl_0_14_ok 15 rfl))))
  (x_Tok2
  (x_Lok (x_st (I := xI) (xr_iload_n (i := 3) (x_dk dl_0_14_ok 16 rfl))))
  (x_Lok (x_st (I := xI) (xr_iconst (n := 2) (z := 2) (v := 2) (x_dk dl_0_14_ok 17 rfl) (by decide) (by decide))))))
  (x_Tok2
  (x_Lok (x_st (I := xI) (xr_iadd (x_dk dl_0_14_ok 18 rfl))))
  (x_Tok2
  (x_Lok (x_st (I := xI) (xr_sld hS (x_dk dl_0_14_ok 19 rfl))))
  (x_Lok (x_ca (I := xI) (q' := m_139) rfl (xr_callV (q' := m_139) (ix := 221) (n := 2) (in_t11 (List.mem_of_getElem? (i := 150) rfl) rfl) good_w (in_t1 (List.mem_of_getElem? (i := 14) rfl) rfl) (in_t11 (List.mem_of_getElem? (i := 147) rfl) rfl) (in_t11 (List.mem_of_getElem? (i := 148) rfl) rfl) (in_t11 (List.mem_of_getElem? (i := 149) rfl) rfl) (by decide +kernel) (by decide +kernel) (by decide +kernel) (x_dk dl_0_14_ok 20 rfl))))))))
  (x_Tok2
  (x_Tok2
  (x_Tok2
  (x_Lok (x_st (I := xI) (xr_icmpeq (off := 51) (tg := 2142) (x_dk dl_0_14_ok 21 rfl) (by decide))))
  (x_Tok2
  (x_Lok (x_st (I := xI) (xr_aload_n (i := 1) (x_dk dl_0_14_ok 22 rfl))))
  (x_Lok (x_st (I := xI) (xr_aload_n (i := 0) (x_dk dl_0_14_ok 23 rfl))))))
  (x_Tok2
  (x_Lok (x_st (I := xI) (xr_iload_n (i := 3) (x_dk dl_0_14_ok 24 rfl))))
  (x_Tok2
  (x_Lok (x_st (I := xI) (xr_iconst (n := 1) (z := 1) (v := 1) (x_dk dl_0_14_ok 25 rfl) (by decide) (by decide))))
  (x_Lok (x_st (I := xI) (xr_iadd (x_dk dl_0_14_ok 26 rfl)))))))
  (x_Tok2
  (x_Tok2
  (x_Lok (x_st (I := xI) (xr_sld hS (x_dk dl_0_14_ok 27 rfl))))
  (x_Tok2
  (x_Lok (x_ca (I := xI) (q' := m_91) rfl (xr_callV (q' := m_91) (ix := 222) (n := 1) (in_t9 (List.mem_of_getElem? (i := 75) rfl) rfl) good_w (in_t1 (List.mem_of_getElem? (i := 1) rfl) rfl) (in_t9 (List.mem_of_getElem? (i := 72) rfl) rfl) (in_t9 (List.mem_of_getElem? (i := 73) rfl) rfl) (in_t9 (List.mem_of_getElem? (i := 74) rfl) rfl) (by decide +kernel) (by decide +kernel) (by decide +kernel) (x_dk dl_0_14_ok 28 rfl))))
  (x_Lok (x_st (I := xI) (xr_aload_n (i := 2) (x_dk dl_0_14_ok 29 rfl))))))
  (x_Tok2
  (x_Lok (x_st (I := xI) (xr_aload_n (i := 0) (x_dk dl_0_14_ok 30 rfl))))
  (x_Tok2
  (x_Lok (x_st (I := xI) (xr_iload_n (i := 3) (x_dk dl_0_14_ok 31 rfl))))
  (x_Lok (x_st (I := xI) (xr_iconst (n := 1) (z := 1) (v := 1) (x_dk dl_0_14_ok 32 rfl) (by decide) (by decide)))))))))
def tb_0_1433 : Nat → xE := (x_T 2125 (x_T 2119 (x_T 2110 (x_T 2109 (x_L 2109 (0, xi_bin xF_add 2110, 0, 0)) (x_L 2110 (0, xi_sld 2111, 0, 0))) (x_T 2111 (x_L 2111 (2, x_nof, 172, 2)) (x_T 2114 (x_L 2114 (0, xi_if2 0 2142 2117, 0, 0)) (x_L 2119 (0, xi_load 1 2 2120, 0, 0))))) (x_T 2122 (x_T 2120 (x_L 2120 (0, xi_load 0 2 2121, 0, 0)) (x_T 2121 (x_L 2121 (0, xi_load 3 0 2122, 0, 0)) (x_L 2122 (0, xi_push (0, 1, 1) 2123, 0, 0)))) (x_T 2123 (x_L 2123 (0, xi_bin xF_add 2124, 0, 0)) (x_T 2124 (x_L 2124 (0, xi_sld 2125, 0, 0)) (x_L 2125 (2, x_nof, 92, 2)))))) (x_T 2133 (x_T 2130 (x_T 2128 (x_L 2128 (0, xi_load 2 2 2129, 0, 0)) (x_T 2129 (x_L 2129 (0, xi_load 0 2 2130, 0, 0)) (x_L 2130 (0, xi_load 3 0 2131, 0, 0)))) (x_T 2131 (x_L 2131 (0, xi_push (0, 1, 1) 2132, 0, 0)) (x_T 2132 (x_L 2132 (0, xi_bin xF_add 2133, 0, 0)) (x_L 2133 (0, xi_sld 2134, 0, 0))))) (x_T 2142 (x_T 2134 (x_L 2134 (2, x_nof, 173, 2)) (x_T 2137 (x_L 2137 (0, xi_if2 0 2142 2140, 0, 0)) (x_L 2142 (0, xi_inc 3 6 2145, 0, 0)))) (x_T 2145 (x_L 2145 (0, xi_goto 18, 0, 0)) (x_T 2148 (x_L 2148 (0, xi_push (0, 1, 1) 2149, 0, 0)) (x_L 2149 (1, x_nof, 4, 0)))))))
set_option maxRecDepth 20000 in
set_option maxHeartbeats 4000000 in
theorem tb_0_1433_ok (K : xKx) (hK : x_KP K) (hS : ∀ R s A H V sc, K R s A H V sc → x_Scr R s A H V sc) : ∀ pc, x_EOq cls K xI m_0 pc (tb_0_1433 pc) :=
  (x_Tok2
  (x_Tok2
  (x_Tok2
  (x_Tok2
  (x_Lok (x_st (I := xI) (xr_iadd (x_dk dl_0_14_ok 33 rfl))))
  (x_Lok (x_st (I := xI) (xr_sld hS (x_dk dl_0_14_ok 34 rfl)))))
  (x_Tok2
  (x_Lok (x_ca (I := xI) (q' := m_172) rfl (xr_callV (q' := m_172) (ix := 225) (n := 1) (in_t14 (List.mem_of_getElem? (i := 20) rfl) rfl) good_w (in_t1 (List.mem_of_getElem? (i := 14) rfl) rfl) (in_t14 (List.mem_of_getElem? (i := 17) rfl) rfl) (in_t14 (List.mem_of_getElem? (i := 18) rfl) rfl) (in_t14 (List.mem_of_getElem? (i := 19) rfl) rfl) (by decide +kernel) (by decide +kernel) (by decide +kernel) (x_dk dl_0_14_ok 35 rfl))))
  (x_Tok2
  (x_Lok (x_st (I := xI) (xr_icmpeq (off := 28) (tg := 2142) (x_dk dl_0_14_ok 36 rfl) (by decide))))
  (x_Lok (x_st (I := xI) (xr_aload_n (i := 1) (x_dk dl_0_14_ok 37 rfl)))))))
  (x_Tok2
  (x_Tok2
  (x_Lok (x_st (I := xI) (xr_aload_n (i := 0) (x_dk dl_0_14_ok 38 rfl))))
  (x_Tok2
  (x_Lok (x_st (I := xI) (xr_iload_n (i := 3) (x_dk dl_0_14_ok 39 rfl))))
  (x_Lok (x_st (I := xI) (xr_iconst (n := 1) (z := 1) (v := 1) (x_dk dl_0_14_ok 40 rfl) (by decide) (by decide))))))
  (x_Tok2
  (x_Lok (x_st (I := xI) (xr_iadd (x_dk dl_0_14_ok 41 rfl))))
  (x_Tok2
  (x_Lok (x_st (I := xI) (xr_sld hS (x_dk dl_0_14_ok 42 rfl))))
  (x_Lok (x_ca (I := xI) (q' := m_92) rfl (xr_callV (q' := m_92) (ix := 226) (n := 1) (in_t9 (List.mem_of_getElem? (i := 79) rfl) rfl) good_w (in_t1 (List.mem_of_getElem? (i := 1) rfl) rfl) (in_t9 (List.mem_of_getElem? (i := 76) rfl) rfl) (in_t9 (List.mem_of_getElem? (i := 77) rfl) rfl) (in_t9 (List.mem_of_getElem? (i := 78) rfl) rfl) (by decide +kernel) (by decide +kernel) (by decide +kernel) (x_dk dl_0_14_ok 43 rfl))))))))
  (x_Tok2
  (x_Tok2
  (x_Tok2
  (x_Lok (x_st (I := xI) (xr_aload_n (i := 2) (x_dk dl_0_14_ok 44 rfl))))
  (x_Tok2
  (x_Lok (x_st (I := xI) (xr_aload_n (i := 0) (x_dk dl_0_14_ok 45 rfl))))
  (x_Lok (x_st (I := xI) (xr_iload_n (i := 3) (x_dk dl_0_14_ok 46 rfl))))))
  (x_Tok2
  (x_Lok (x_st (I := xI) (xr_iconst (n := 1) (z := 1) (v := 1) (x_dk dl_0_14_ok 47 rfl) (by decide) (by decide))))
  (x_Tok2
  (x_Lok (x_st (I := xI) (xr_iadd (x_dk dl_0_14_ok 48 rfl))))
  (x_Lok (x_st (I := xI) (xr_sld hS (x_dk dl_0_14_ok 49 rfl)))))))
  (x_Tok2
  (x_Tok2
  (x_Lok (x_ca (I := xI) (q' := m_173) rfl (xr_callV (q' := m_173) (ix := 229) (n := 1) (in_t14 (List.mem_of_getElem? (i := 24) rfl) rfl) good_w (in_t1 (List.mem_of_getElem? (i := 14) rfl) rfl) (in_t14 (List.mem_of_getElem? (i := 21) rfl) rfl) (in_t14 (List.mem_of_getElem? (i := 22) rfl) rfl) (in_t14 (List.mem_of_getElem? (i := 23) rfl) rfl) (by decide +kernel) (by decide +kernel) (by decide +kernel) (x_dk dl_0_14_ok 50 rfl))))
  (x_Tok2
  (x_Lok (x_st (I := xI) (xr_icmpeq (off := 5) (tg := 2142) (x_dk dl_0_14_ok 51 rfl) (by decide))))
  (x_Lok (x_st (I := xI) (xr_iinc (i := 3) (n := 6) (x_dk dl_0_14_ok 52 rfl) (by decide +kernel) (by decide))))))
  (x_Tok2
  (x_Lok (x_st (I := xI) (xr_goto (off := (-2127)) (tg := 18) (x_dk dl_0_14_ok 53 rfl) (by decide))))
  (x_Tok2
  (x_Lok (x_st (I := xI) (xr_iconst (n := 1) (z := 1) (v := 1) (x_dk dl_0_14_ok 54 rfl) (by decide) (by decide))))
  (x_Lok (x_rt (I := xI) (k := 4) ⟨(x_dk dl_0_14_ok 55 rfl), rfl⟩)))))))
def tb_0 : Nat → xE := (x_T 1121 (x_T 669 (x_T 449 (x_T 334 (x_T 278 (x_T 33 tb_0_0 tb_0_22) (x_T 303 tb_0_45 tb_0_68)) (x_T 395 (x_T 370 tb_0_91 tb_0_113) (x_T 424 tb_0_136 tb_0_159))) (x_T 556 (x_T 502 (x_T 477 tb_0_182 tb_0_204) (x_T 531 tb_0_227 tb_0_250)) (x_T 615 (x_T 586 tb_0_273 tb_0_295) (x_T 640 tb_0_318 tb_0_341)))) (x_T 885 (x_T 776 (x_T 722 (x_T 693 tb_0_364 tb_0_386) (x_T 747 tb_0_409 tb_0_432)) (x_T 831 (x_T 806 tb_0_455 tb_0_477) (x_T 860 tb_0_500 tb_0_523))) (x_T 992 (x_T 944 (x_T 913 tb_0_546 tb_0_568) (x_T 967 tb_0_591 tb_0_614)) (x_T 1055 (x_T 1022 tb_0_637 tb_0_659) (x_T 1088 tb_0_682 tb_0_705))))) (x_T 1633 (x_T 1383 (x_T 1260 (x_T 1186 (x_T 1149 tb_0_728 tb_0_750) (x_T 1229 tb_0_773 tb_0_796)) (x_T 1321 (x_T 1290 tb_0_819 tb_0_841) (x_T 1350 tb_0_864 tb_0_887))) (x_T 1522 (x_T 1452 (x_T 1415 tb_0_910 tb_0_932) (x_T 1485 tb_0_955 tb_0_978)) (x_T 1577 (x_T 1546 tb_0_1001 tb_0_1023) (x_T 1606 tb_0_1046 tb_0_1069)))) (x_T 1883 (x_T 1768 (x_T 1706 (x_T 1667 tb_0_1092 tb_0_1114) (x_T 1737 tb_0_1137 tb_0_1160)) (x_T 1823 (x_T 1792 tb_0_1183 tb_0_1205) (x_T 1854 tb_0_1228 tb_0_1251))) (x_T 2008 (x_T 1944 (x_T 1913 tb_0_1274 tb_0_1296) (x_T 1977 tb_0_1319 tb_0_1342)) (x_T 2077 (x_T 2046 tb_0_1365 tb_0_1387) (x_T 2108 tb_0_1410 tb_0_1433))))))
theorem tb_0_ok (K : xKx) (hK : x_KP K) (hS : ∀ R s A H V sc, K R s A H V sc → x_Scr R s A H V sc) : ∀ pc, x_EOq cls K xI m_0 pc (tb_0 pc) := (x_Tok2 ((x_Tok2 ((x_Tok2 ((x_Tok2 ((x_Tok2 ((x_Tok2 (tb_0_0_ok K hK hS) (tb_0_22_ok K hK hS))) ((x_Tok2 (tb_0_45_ok K hK hS) (tb_0_68_ok K hK hS))))) ((x_Tok2 ((x_Tok2 (tb_0_91_ok K hK hS) (tb_0_113_ok K hK hS))) ((x_Tok2 (tb_0_136_ok K hK hS) (tb_0_159_ok K hK hS))))))) ((x_Tok2 ((x_Tok2 ((x_Tok2 (tb_0_182_ok K hK hS) (tb_0_204_ok K hK hS))) ((x_Tok2 (tb_0_227_ok K hK hS) (tb_0_250_ok K hK hS))))) ((x_Tok2 ((x_Tok2 (tb_0_273_ok K hK hS) (tb_0_295_ok K hK hS))) ((x_Tok2 (tb_0_318_ok K hK hS) (tb_0_341_ok K hK hS))))))))) ((x_Tok2 ((x_Tok2 ((x_Tok2 ((x_Tok2 (tb_0_364_ok K hK hS) (tb_0_386_ok K hK hS))) ((x_Tok2 (tb_0_409_ok K hK hS) (tb_0_432_ok K hK hS))))) ((x_Tok2 ((x_Tok2 (tb_0_455_ok K hK hS) (tb_0_477_ok K hK hS))) ((x_Tok2 (tb_0_500_ok K hK hS) (tb_0_523_ok K hK hS))))))) ((x_Tok2 ((x_Tok2 ((x_Tok2 (tb_0_546_ok K hK hS) (tb_0_568_ok K hK hS))) ((x_Tok2 (tb_0_591_ok K hK hS) (tb_0_614_ok K hK hS))))) ((x_Tok2 ((x_Tok2 (tb_0_637_ok K hK hS) (tb_0_659_ok K hK hS))) ((x_Tok2 (tb_0_682_ok K hK hS) (tb_0_705_ok K hK hS))))))))))) ((x_Tok2 ((x_Tok2 ((x_Tok2 ((x_Tok2 ((x_Tok2 (tb_0_728_ok K hK hS) (tb_0_750_ok K hK hS))) ((x_Tok2 (tb_0_773_ok K hK hS) (tb_0_796_ok K hK hS))))) ((x_Tok2 ((x_Tok2 (tb_0_819_ok K hK hS) (tb_0_841_ok K hK hS))) ((x_Tok2 (tb_0_864_ok K hK hS) (tb_0_887_ok K hK hS))))))) ((x_Tok2 ((x_Tok2 ((x_Tok2 (tb_0_910_ok K hK hS) (tb_0_932_ok K hK hS))) ((x_Tok2 (tb_0_955_ok K hK hS) (tb_0_978_ok K hK hS))))) ((x_Tok2 ((x_Tok2 (tb_0_1001_ok K hK hS) (tb_0_1023_ok K hK hS))) ((x_Tok2 (tb_0_1046_ok K hK hS) (tb_0_1069_ok K hK hS))))))))) ((x_Tok2 ((x_Tok2 ((x_Tok2 ((x_Tok2 (tb_0_1092_ok K hK hS) (tb_0_1114_ok K hK hS))) ((x_Tok2 (tb_0_1137_ok K hK hS) (tb_0_1160_ok K hK hS))))) ((x_Tok2 ((x_Tok2 (tb_0_1183_ok K hK hS) (tb_0_1205_ok K hK hS))) ((x_Tok2 (tb_0_1228_ok K hK hS) (tb_0_1251_ok K hK hS))))))) ((x_Tok2 ((x_Tok2 ((x_Tok2 (tb_0_1274_ok K hK hS) (tb_0_1296_ok K hK hS))) ((x_Tok2 (tb_0_1319_ok K hK hS) (tb_0_1342_ok K hK hS))))) ((x_Tok2 ((x_Tok2 (tb_0_1365_ok K hK hS) (tb_0_1387_ok K hK hS))) ((x_Tok2 (tb_0_1410_ok K hK hS) (tb_0_1433_ok K hK hS))))))))))))
end
