def pq_l0 : List mq_E := [(18, true, .iload 3), (19, false, .aload 0), (20, false, .daload), (21, false, .iconst 6), (23, false, .isub), (24, false, .if_icmp .gt (Int.ofNat 2100)), (27, false, .aload 0), (28, false, .iload 3), (29, false, .faload), (30, false, .iconst 63), (32, false, .iand), (33, false, .tableswitch (Int.ofNat 2094) 0 47 #[(Int.ofNat 240), (Int.ofNat 303), (Int.ofNat 326), (Int.ofNat 339), (Int.ofNat 362), (Int.ofNat 395), (Int.ofNat 428), (Int.ofNat 451), (Int.ofNat 484), (Int.ofNat 517), (Int.ofNat 550), (Int.ofNat 613), (Int.ofNat 666), (Int.ofNat 719), (Int.ofNat 782), (Int.ofNat 835), (Int.ofNat 888), (Int.ofNat 941), (Int.ofNat 994), (Int.ofNat 1047), (Int.ofNat 1090), (Int.ofNat 1143), (Int.ofNat 1176), (Int.ofNat 1229), (Int.ofNat 1292), (Int.ofNat 1335), (Int.ofNat 1368), (Int.ofNat 1401), (Int.ofNat 1434), (Int.ofNat 1457), (Int.ofNat 1470), (Int.ofNat 1493), (Int.ofNat 1526), (Int.ofNat 1549), (Int.ofNat 1572), (Int.ofNat 1605), (Int.ofNat 1638), (Int.ofNat 1661), (Int.ofNat 1694), (Int.ofNat 1717), (Int.ofNat 1750), (Int.ofNat 1803), (Int.ofNat 1846), (Int.ofNat 1869), (Int.ofNat 1892), (Int.ofNat 1915), (Int.ofNat 1958), (Int.ofNat 2031)]), (240, true, .aload 1), (241, false, .aload 0), (242, false, .iload 3), (243, false, .iconst 1)]
def pq_l1 : List mq_E := [(244, false, .iadd), (245, false, .faload), (246, false, .aload 0), (247, false, .iload 3), (248, false, .iconst 2), (249, false, .iadd), (250, false, .faload), (251, false, .aload 0), (252, false, .iload 3), (253, false, .iconst 3), (254, false, .iadd), (255, false, .faload), (256, false, .aload 0), (257, false, .iload 3), (258, false, .iconst 4), (259, false, .iadd)]
def pq_l2 : List mq_E := [(260, false, .faload), (261, false, .aload 0), (262, false, .iload 3), (263, false, .iconst 5), (264, false, .iadd), (265, false, .faload), (266, false, .invokestatic 0), (269, false, .pop), (270, true, .aload 2), (271, false, .aload 0), (272, false, .iload 3), (273, false, .iconst 1), (274, false, .iadd), (275, false, .faload), (276, false, .aload 0), (277, false, .iload 3)]
def pq_l3 : List mq_E := [(278, false, .iconst 2), (279, false, .iadd), (280, false, .faload), (281, false, .aload 0), (282, false, .iload 3), (283, false, .iconst 3), (284, false, .iadd), (285, false, .faload), (286, false, .aload 0), (287, false, .iload 3), (288, false, .iconst 4), (289, false, .iadd), (290, false, .faload), (291, false, .aload 0), (292, false, .iload 3), (293, false, .iconst 5)]
def pq_l4 : List mq_E := [(294, false, .iadd), (295, false, .faload), (296, false, .invokestatic 1), (299, false, .pop), (300, false, .goto (Int.ofNat 2094)), (303, true, .aload 1), (304, false, .aload 0), (305, false, .iload 3), (306, false, .iconst 1), (307, false, .iadd), (308, false, .faload), (309, false, .invokestatic 2), (312, false, .pop), (313, true, .aload 2), (314, false, .aload 0), (315, false, .iload 3)]
def pq_l5 : List mq_E := [(316, false, .iconst 1), (317, false, .iadd), (318, false, .faload), (319, false, .invokestatic 3), (322, false, .pop), (323, false, .goto (Int.ofNat 2094)), (326, true, .aload 1), (327, false, .invokestatic 4), (330, false, .pop), (331, true, .aload 2), (332, false, .invokestatic 5), (335, false, .pop), (336, false, .goto (Int.ofNat 2094)), (339, true, .aload 1), (340, false, .aload 0), (341, false, .iload 3)]
def pq_l6 : List mq_E := [(342, false, .iconst 1), (343, false, .iadd), (344, false, .faload), (345, false, .invokestatic 6), (348, false, .pop), (349, true, .aload 2), (350, false, .aload 0), (351, false, .iload 3), (352, false, .iconst 1), (353, false, .iadd), (354, false, .faload), (355, false, .invokestatic 7), (358, false, .pop), (359, false, .goto (Int.ofNat 2094)), (362, true, .aload 1), (363, false, .aload 0)]
def pq_l7 : List mq_E := [(364, false, .iload 3), (365, false, .iconst 1), (366, false, .iadd), (367, false, .faload), (368, false, .aload 0), (369, false, .iload 3), (370, false, .iconst 2), (371, false, .iadd), (372, false, .faload), (373, false, .invokestatic 8), (376, false, .pop), (377, true, .aload 2), (378, false, .aload 0), (379, false, .iload 3), (380, false, .iconst 1), (381, false, .iadd)]
def pq_l8 : List mq_E := [(382, false, .faload), (383, false, .aload 0), (384, false, .iload 3), (385, false, .iconst 2), (386, false, .iadd), (387, false, .faload), (388, false, .invokestatic 9), (391, false, .pop), (392, false, .goto (Int.ofNat 2094)), (395, true, .aload 1), (396, false, .aload 0), (397, false, .iload 3), (398, false, .iconst 1), (399, false, .iadd), (400, false, .faload), (401, false, .aload 0)]
def pq_l9 : List mq_E := [(402, false, .iload 3), (403, false, .iconst 2), (404, false, .iadd), (405, false, .faload), (406, false, .invokestatic 10), (409, false, .pop), (410, true, .aload 2), (411, false, .aload 0), (412, false, .iload 3), (413, false, .iconst 1), (414, false, .iadd), (415, false, .faload), (416, false, .aload 0), (417, false, .iload 3), (418, false, .iconst 2), (419, false, .iadd)]
def pq_l10 : List mq_E := [(420, false, .faload), (421, false, .invokestatic 11), (424, false, .pop), (425, false, .goto (Int.ofNat 2094)), (428, true, .aload 1), (429, false, .aload 0), (430, false, .iload 3), (431, false, .iconst 1), (432, false, .iadd), (433, false, .faload), (434, false, .invokestatic 12), (437, false, .pop), (438, true, .aload 2), (439, false, .aload 0), (440, false, .iload 3), (441, false, .iconst 1)]
def pq_l11 : List mq_E := [(442, false, .iadd), (443, false, .faload), (444, false, .invokestatic 13), (447, false, .pop), (448, false, .goto (Int.ofNat 2094)), (451, true, .aload 1), (452, false, .aload 0), (453, false, .iload 3), (454, false, .iconst 1), (455, false, .iadd), (456, false, .faload), (457, false, .aload 0), (458, false, .iload 3), (459, false, .iconst 2), (460, false, .iadd), (461, false, .faload)]
def pq_l12 : List mq_E := [(462, false, .invokestatic 14), (465, false, .pop), (466, true, .aload 2), (467, false, .aload 0), (468, false, .iload 3), (469, false, .iconst 1), (470, false, .iadd), (471, false, .faload), (472, false, .aload 0), (473, false, .iload 3), (474, false, .iconst 2), (475, false, .iadd), (476, false, .faload), (477, false, .invokestatic 15), (480, false, .pop), (481, false, .goto (Int.ofNat 2094))]
def pq_l13 : List mq_E := [(484, true, .aload 1), (485, false, .aload 0), (486, false, .iload 3), (487, false, .iconst 1), (488, false, .iadd), (489, false, .faload), (490, false, .aload 0), (491, false, .iload 3), (492, false, .iconst 2), (493, false, .iadd), (494, false, .faload), (495, false, .invokestatic 16), (498, false, .pop), (499, true, .aload 2), (500, false, .aload 0), (501, false, .iload 3)]
def pq_l14 : List mq_E := [(502, false, .iconst 1), (503, false, .iadd), (504, false, .faload), (505, false, .aload 0), (506, false, .iload 3), (507, false, .iconst 2), (508, false, .iadd), (509, false, .faload), (510, false, .invokestatic 17), (513, false, .pop), (514, false, .goto (Int.ofNat 2094)), (517, true, .aload 1), (518, false, .aload 0), (519, false, .iload 3), (520, false, .iconst 1), (521, false, .iadd)]
def pq_l15 : List mq_E := [(522, false, .faload), (523, false, .aload 0), (524, false, .iload 3), (525, false, .iconst 2), (526, false, .iadd), (527, false, .faload), (528, false, .invokestatic 18), (531, false, .pop), (532, true, .aload 2), (533, false, .aload 0), (534, false, .iload 3), (535, false, .iconst 1), (536, false, .iadd), (537, false, .faload), (538, false, .aload 0), (539, false, .iload 3)]
def pq_l16 : List mq_E := [(540, false, .iconst 2), (541, false, .iadd), (542, false, .faload), (543, false, .invokestatic 19), (546, false, .pop), (547, false, .goto (Int.ofNat 2094)), (550, true, .aload 1), (551, false, .aload 0), (552, false, .iload 3), (553, false, .iconst 1), (554, false, .iadd), (555, false, .faload), (556, false, .aload 0), (557, false, .iload 3), (558, false, .iconst 2), (559, false, .iadd)]
def pq_l17 : List mq_E := [(560, false, .faload), (561, false, .aload 0), (562, false, .iload 3), (563, false, .iconst 3), (564, false, .iadd), (565, false, .faload), (566, false, .aload 0), (567, false, .iload 3), (568, false, .iconst 4), (569, false, .iadd), (570, false, .faload), (571, false, .aload 0), (572, false, .iload 3), (573, false, .iconst 5), (574, false, .iadd), (575, false, .faload)]
def pq_l18 : List mq_E := [(576, false, .invokestatic 20), (579, false, .pop), (580, true, .aload 2), (581, false, .aload 0), (582, false, .iload 3), (583, false, .iconst 1), (584, false, .iadd), (585, false, .faload), (586, false, .aload 0), (587, false, .iload 3), (588, false, .iconst 2), (589, false, .iadd), (590, false, .faload), (591, false, .aload 0), (592, false, .iload 3), (593, false, .iconst 3)]
def pq_l19 : List mq_E := [(594, false, .iadd), (595, false, .faload), (596, false, .aload 0), (597, false, .iload 3), (598, false, .iconst 4), (599, false, .iadd), (600, false, .faload), (601, false, .aload 0), (602, false, .iload 3), (603, false, .iconst 5), (604, false, .iadd), (605, false, .faload), (606, false, .invokestatic 21), (609, false, .pop), (610, false, .goto (Int.ofNat 2094)), (613, true, .aload 1)]
def pq_l20 : List mq_E := [(614, false, .aload 0), (615, false, .iload 3), (616, false, .iconst 1), (617, false, .iadd), (618, false, .faload), (619, false, .aload 0), (620, false, .iload 3), (621, false, .iconst 2), (622, false, .iadd), (623, false, .faload), (624, false, .aload 0), (625, false, .iload 3), (626, false, .iconst 3), (627, false, .iadd), (628, false, .faload), (629, false, .aload 0)]
def pq_l21 : List mq_E := [(630, false, .iload 3), (631, false, .iconst 4), (632, false, .iadd), (633, false, .faload), (634, false, .invokestatic 22), (637, false, .pop), (638, true, .aload 2), (639, false, .aload 0), (640, false, .iload 3), (641, false, .iconst 1), (642, false, .iadd), (643, false, .faload), (644, false, .aload 0), (645, false, .iload 3), (646, false, .iconst 2), (647, false, .iadd)]
def pq_l22 : List mq_E := [(648, false, .faload), (649, false, .aload 0), (650, false, .iload 3), (651, false, .iconst 3), (652, false, .iadd), (653, false, .faload), (654, false, .aload 0), (655, false, .iload 3), (656, false, .iconst 4), (657, false, .iadd), (658, false, .faload), (659, false, .invokestatic 23), (662, false, .pop), (663, false, .goto (Int.ofNat 2094)), (666, true, .aload 1), (667, false, .aload 0)]
def pq_l23 : List mq_E := [(668, false, .iload 3), (669, false, .iconst 1), (670, false, .iadd), (671, false, .faload), (672, false, .aload 0), (673, false, .iload 3), (674, false, .iconst 2), (675, false, .iadd), (676, false, .faload), (677, false, .aload 0), (678, false, .iload 3), (679, false, .iconst 3), (680, false, .iadd), (681, false, .faload), (682, false, .aload 0), (683, false, .iload 3)]
def pq_l24 : List mq_E := [(684, false, .iconst 4), (685, false, .iadd), (686, false, .faload), (687, false, .invokestatic 24), (690, false, .pop), (691, true, .aload 2), (692, false, .aload 0), (693, false, .iload 3), (694, false, .iconst 1), (695, false, .iadd), (696, false, .faload), (697, false, .aload 0), (698, false, .iload 3), (699, false, .iconst 2), (700, false, .iadd), (701, false, .faload)]
def pq_l25 : List mq_E := [(702, false, .aload 0), (703, false, .iload 3), (704, false, .iconst 3), (705, false, .iadd), (706, false, .faload), (707, false, .aload 0), (708, false, .iload 3), (709, false, .iconst 4), (710, false, .iadd), (711, false, .faload), (712, false, .invokestatic 25), (715, false, .pop), (716, false, .goto (Int.ofNat 2094)), (719, true, .aload 1), (720, false, .aload 0), (721, false, .iload 3)]
def pq_l26 : List mq_E := [(722, false, .iconst 1), (723, false, .iadd), (724, false, .faload), (725, false, .aload 0), (726, false, .iload 3), (727, false, .iconst 2), (728, false, .iadd), (729, false, .faload), (730, false, .aload 0), (731, false, .iload 3), (732, false, .iconst 3), (733, false, .iadd), (734, false, .faload), (735, false, .aload 0), (736, false, .iload 3), (737, false, .iconst 4)]
def pq_l27 : List mq_E := [(738, false, .iadd), (739, false, .faload), (740, false, .aload 0), (741, false, .iload 3), (742, false, .iconst 5), (743, false, .iadd), (744, false, .faload), (745, false, .invokestatic 26), (748, false, .pop), (749, true, .aload 2), (750, false, .aload 0), (751, false, .iload 3), (752, false, .iconst 1), (753, false, .iadd), (754, false, .faload), (755, false, .aload 0)]
def pq_l28 : List mq_E := [(756, false, .iload 3), (757, false, .iconst 2), (758, false, .iadd), (759, false, .faload), (760, false, .aload 0), (761, false, .iload 3), (762, false, .iconst 3), (763, false, .iadd), (764, false, .faload), (765, false, .aload 0), (766, false, .iload 3), (767, false, .iconst 4), (768, false, .iadd), (769, false, .faload), (770, false, .aload 0), (771, false, .iload 3)]
def pq_l29 : List mq_E := [(772, false, .iconst 5), (773, false, .iadd), (774, false, .faload), (775, false, .invokestatic 27), (778, false, .pop), (779, false, .goto (Int.ofNat 2094)), (782, true, .aload 1), (783, false, .aload 0), (784, false, .iload 3), (785, false, .iconst 1), (786, false, .iadd), (787, false, .faload), (788, false, .aload 0), (789, false, .iload 3), (790, false, .iconst 2), (791, false, .iadd)]
def pq_l30 : List mq_E := [(792, false, .faload), (793, false, .aload 0), (794, false, .iload 3), (795, false, .iconst 3), (796, false, .iadd), (797, false, .faload), (798, false, .aload 0), (799, false, .iload 3), (800, false, .iconst 4), (801, false, .iadd), (802, false, .faload), (803, false, .invokestatic 28), (806, false, .pop), (807, true, .aload 2), (808, false, .aload 0), (809, false, .iload 3)]
def pq_l31 : List mq_E := [(810, false, .iconst 1), (811, false, .iadd), (812, false, .faload), (813, false, .aload 0), (814, false, .iload 3), (815, false, .iconst 2), (816, false, .iadd), (817, false, .faload), (818, false, .aload 0), (819, false, .iload 3), (820, false, .iconst 3), (821, false, .iadd), (822, false, .faload), (823, false, .aload 0), (824, false, .iload 3), (825, false, .iconst 4)]
def pq_l32 : List mq_E := [(826, false, .iadd), (827, false, .faload), (828, false, .invokestatic 29), (831, false, .pop), (832, false, .goto (Int.ofNat 2094)), (835, true, .aload 1), (836, false, .aload 0), (837, false, .iload 3), (838, false, .iconst 1), (839, false, .iadd), (840, false, .faload), (841, false, .aload 0), (842, false, .iload 3), (843, false, .iconst 2), (844, false, .iadd), (845, false, .faload)]
def pq_l33 : List mq_E := [(846, false, .aload 0), (847, false, .iload 3), (848, false, .iconst 3), (849, false, .iadd), (850, false, .faload), (851, false, .aload 0), (852, false, .iload 3), (853, false, .iconst 4), (854, false, .iadd), (855, false, .faload), (856, false, .invokestatic 30), (859, false, .pop), (860, true, .aload 2), (861, false, .aload 0), (862, false, .iload 3), (863, false, .iconst 1)]
def pq_l34 : List mq_E := [(864, false, .iadd), (865, false, .faload), (866, false, .aload 0), (867, false, .iload 3), (868, false, .iconst 2), (869, false, .iadd), (870, false, .faload), (871, false, .aload 0), (872, false, .iload 3), (873, false, .iconst 3), (874, false, .iadd), (875, false, .faload), (876, false, .aload 0), (877, false, .iload 3), (878, false, .iconst 4), (879, false, .iadd)]
def pq_l35 : List mq_E := [(880, false, .faload), (881, false, .invokestatic 31), (884, false, .pop), (885, false, .goto (Int.ofNat 2094)), (888, true, .aload 1), (889, false, .aload 0), (890, false, .iload 3), (891, false, .iconst 1), (892, false, .iadd), (893, false, .faload), (894, false, .aload 0), (895, false, .iload 3), (896, false, .iconst 2), (897, false, .iadd), (898, false, .faload), (899, false, .aload 0)]
def pq_l36 : List mq_E := [(900, false, .iload 3), (901, false, .iconst 3), (902, false, .iadd), (903, false, .faload), (904, false, .aload 0), (905, false, .iload 3), (906, false, .iconst 4), (907, false, .iadd), (908, false, .faload), (909, false, .invokestatic 32), (912, false, .pop), (913, true, .aload 2), (914, false, .aload 0), (915, false, .iload 3), (916, false, .iconst 1), (917, false, .iadd)]
def pq_l37 : List mq_E := [(918, false, .faload), (919, false, .aload 0), (920, false, .iload 3), (921, false, .iconst 2), (922, false, .iadd), (923, false, .faload), (924, false, .aload 0), (925, false, .iload 3), (926, false, .iconst 3), (927, false, .iadd), (928, false, .faload), (929, false, .aload 0), (930, false, .iload 3), (931, false, .iconst 4), (932, false, .iadd), (933, false, .faload)]
def pq_l38 : List mq_E := [(934, false, .invokestatic 33), (937, false, .pop), (938, false, .goto (Int.ofNat 2094)), (941, true, .aload 1), (942, false, .aload 0), (943, false, .iload 3), (944, false, .iconst 1), (945, false, .iadd), (946, false, .faload), (947, false, .aload 0), (948, false, .iload 3), (949, false, .iconst 2), (950, false, .iadd), (951, false, .faload), (952, false, .aload 0), (953, false, .iload 3)]
def pq_l39 : List mq_E := [(954, false, .iconst 3), (955, false, .iadd), (956, false, .faload), (957, false, .aload 0), (958, false, .iload 3), (959, false, .iconst 4), (960, false, .iadd), (961, false, .faload), (962, false, .invokestatic 34), (965, false, .pop), (966, true, .aload 2), (967, false, .aload 0), (968, false, .iload 3), (969, false, .iconst 1), (970, false, .iadd), (971, false, .faload)]
def pq_l40 : List mq_E := [(972, false, .aload 0), (973, false, .iload 3), (974, false, .iconst 2), (975, false, .iadd), (976, false, .faload), (977, false, .aload 0), (978, false, .iload 3), (979, false, .iconst 3), (980, false, .iadd), (981, false, .faload), (982, false, .aload 0), (983, false, .iload 3), (984, false, .iconst 4), (985, false, .iadd), (986, false, .faload), (987, false, .invokestatic 35)]
def pq_l41 : List mq_E := [(990, false, .pop), (991, false, .goto (Int.ofNat 2094)), (994, true, .aload 1), (995, false, .aload 0), (996, false, .iload 3), (997, false, .iconst 1), (998, false, .iadd), (999, false, .faload), (1000, false, .aload 0), (1001, false, .iload 3), (1002, false, .iconst 2), (1003, false, .iadd), (1004, false, .faload), (1005, false, .aload 0), (1006, false, .iload 3), (1007, false, .iconst 3)]
def pq_l42 : List mq_E := [(1008, false, .iadd), (1009, false, .faload), (1010, false, .aload 0), (1011, false, .iload 3), (1012, false, .iconst 4), (1013, false, .iadd), (1014, false, .faload), (1015, false, .invokestatic 36), (1018, false, .pop), (1019, true, .aload 2), (1020, false, .aload 0), (1021, false, .iload 3), (1022, false, .iconst 1), (1023, false, .iadd), (1024, false, .faload), (1025, false, .aload 0)]
def pq_l43 : List mq_E := [(1026, false, .iload 3), (1027, false, .iconst 2), (1028, false, .iadd), (1029, false, .faload), (1030, false, .aload 0), (1031, false, .iload 3), (1032, false, .iconst 3), (1033, false, .iadd), (1034, false, .faload), (1035, false, .aload 0), (1036, false, .iload 3), (1037, false, .iconst 4), (1038, false, .iadd), (1039, false, .faload), (1040, false, .invokestatic 37), (1043, false, .pop)]
def pq_l44 : List mq_E := [(1044, false, .goto (Int.ofNat 2094)), (1047, true, .aload 1), (1048, false, .aload 0), (1049, false, .iload 3), (1050, false, .iconst 1), (1051, false, .iadd), (1052, false, .faload), (1053, false, .aload 0), (1054, false, .iload 3), (1055, false, .iconst 2), (1056, false, .iadd), (1057, false, .faload), (1058, false, .aload 0), (1059, false, .iload 3), (1060, false, .iconst 3), (1061, false, .iadd)]
def pq_l45 : List mq_E := [(1062, false, .faload), (1063, false, .invokestatic 38), (1066, false, .pop), (1067, true, .aload 2), (1068, false, .aload 0), (1069, false, .iload 3), (1070, false, .iconst 1), (1071, false, .iadd), (1072, false, .faload), (1073, false, .aload 0), (1074, false, .iload 3), (1075, false, .iconst 2), (1076, false, .iadd), (1077, false, .faload), (1078, false, .aload 0), (1079, false, .iload 3)]
def pq_l46 : List mq_E := [(1080, false, .iconst 3), (1081, false, .iadd), (1082, false, .faload), (1083, false, .invokestatic 39), (1086, false, .pop), (1087, false, .goto (Int.ofNat 2094)), (1090, true, .aload 1), (1091, false, .aload 0), (1092, false, .iload 3), (1093, false, .iconst 1), (1094, false, .iadd), (1095, false, .faload), (1096, false, .aload 0), (1097, false, .iload 3), (1098, false, .iconst 2), (1099, false, .iadd)]
def pq_l47 : List mq_E := [(1100, false, .faload), (1101, false, .aload 0), (1102, false, .iload 3), (1103, false, .iconst 3), (1104, false, .iadd), (1105, false, .faload), (1106, false, .aload 0), (1107, false, .iload 3), (1108, false, .iconst 4), (1109, false, .iadd), (1110, false, .faload), (1111, false, .invokestatic 40), (1114, false, .pop), (1115, true, .aload 2), (1116, false, .aload 0), (1117, false, .iload 3)]
def pq_l48 : List mq_E := [(1118, false, .iconst 1), (1119, false, .iadd), (1120, false, .faload), (1121, false, .aload 0), (1122, false, .iload 3), (1123, false, .iconst 2), (1124, false, .iadd), (1125, false, .faload), (1126, false, .aload 0), (1127, false, .iload 3), (1128, false, .iconst 3), (1129, false, .iadd), (1130, false, .faload), (1131, false, .aload 0), (1132, false, .iload 3), (1133, false, .iconst 4)]
def pq_l49 : List mq_E := [(1134, false, .iadd), (1135, false, .faload), (1136, false, .invokestatic 41), (1139, false, .pop), (1140, false, .goto (Int.ofNat 2094)), (1143, true, .aload 1), (1144, false, .aload 0), (1145, false, .iload 3), (1146, false, .iconst 1), (1147, false, .iadd), (1148, false, .faload), (1149, false, .aload 0), (1150, false, .iload 3), (1151, false, .iconst 2), (1152, false, .iadd), (1153, false, .faload)]
def pq_l50 : List mq_E := [(1154, false, .invokestatic 42), (1157, false, .pop), (1158, true, .aload 2), (1159, false, .aload 0), (1160, false, .iload 3), (1161, false, .iconst 1), (1162, false, .iadd), (1163, false, .faload), (1164, false, .aload 0), (1165, false, .iload 3), (1166, false, .iconst 2), (1167, false, .iadd), (1168, false, .faload), (1169, false, .invokestatic 43), (1172, false, .pop), (1173, false, .goto (Int.ofNat 2094))]
def pq_l51 : List mq_E := [(1176, true, .aload 1), (1177, false, .aload 0), (1178, false, .iload 3), (1179, false, .iconst 1), (1180, false, .iadd), (1181, false, .faload), (1182, false, .aload 0), (1183, false, .iload 3), (1184, false, .iconst 2), (1185, false, .iadd), (1186, false, .faload), (1187, false, .aload 0), (1188, false, .iload 3), (1189, false, .iconst 3), (1190, false, .iadd), (1191, false, .faload)]
def pq_l52 : List mq_E := [(1192, false, .aload 0), (1193, false, .iload 3), (1194, false, .iconst 4), (1195, false, .iadd), (1196, false, .faload), (1197, false, .invokestatic 44), (1200, false, .pop), (1201, true, .aload 2), (1202, false, .aload 0), (1203, false, .iload 3), (1204, false, .iconst 1), (1205, false, .iadd), (1206, false, .faload), (1207, false, .aload 0), (1208, false, .iload 3), (1209, false, .iconst 2)]
def pq_l53 : List mq_E := [(1210, false, .iadd), (1211, false, .faload), (1212, false, .aload 0), (1213, false, .iload 3), (1214, false, .iconst 3), (1215, false, .iadd), (1216, false, .faload), (1217, false, .aload 0), (1218, false, .iload 3), (1219, false, .iconst 4), (1220, false, .iadd), (1221, false, .faload), (1222, false, .invokestatic 45), (1225, false, .pop), (1226, false, .goto (Int.ofNat 2094)), (1229, true, .aload 1)]
def pq_l54 : List mq_E := [(1230, false, .aload 0), (1231, false, .iload 3), (1232, false, .iconst 1), (1233, false, .iadd), (1234, false, .faload), (1235, false, .aload 0), (1236, false, .iload 3), (1237, false, .iconst 2), (1238, false, .iadd), (1239, false, .faload), (1240, false, .aload 0), (1241, false, .iload 3), (1242, false, .iconst 3), (1243, false, .iadd), (1244, false, .faload), (1245, false, .aload 0)]
def pq_l55 : List mq_E := [(1246, false, .iload 3), (1247, false, .iconst 4), (1248, false, .iadd), (1249, false, .faload), (1250, false, .aload 0), (1251, false, .iload 3), (1252, false, .iconst 5), (1253, false, .iadd), (1254, false, .faload), (1255, false, .invokestatic 46), (1258, false, .pop), (1259, true, .aload 2), (1260, false, .aload 0), (1261, false, .iload 3), (1262, false, .iconst 1), (1263, false, .iadd)]
def pq_l56 : List mq_E := [(1264, false, .faload), (1265, false, .aload 0), (1266, false, .iload 3), (1267, false, .iconst 2), (1268, false, .iadd), (1269, false, .faload), (1270, false, .aload 0), (1271, false, .iload 3), (1272, false, .iconst 3), (1273, false, .iadd), (1274, false, .faload), (1275, false, .aload 0), (1276, false, .iload 3), (1277, false, .iconst 4), (1278, false, .iadd), (1279, false, .faload)]
def pq_l57 : List mq_E := [(1280, false, .aload 0), (1281, false, .iload 3), (1282, false, .iconst 5), (1283, false, .iadd), (1284, false, .faload), (1285, false, .invokestatic 47), (1288, false, .pop), (1289, false, .goto (Int.ofNat 2094)), (1292, true, .aload 1), (1293, false, .aload 0), (1294, false, .iload 3), (1295, false, .iconst 1), (1296, false, .iadd), (1297, false, .faload), (1298, false, .aload 0), (1299, false, .iload 3)]
def pq_l58 : List mq_E := [(1300, false, .iconst 2), (1301, false, .iadd), (1302, false, .faload), (1303, false, .aload 0), (1304, false, .iload 3), (1305, false, .iconst 3), (1306, false, .iadd), (1307, false, .faload), (1308, false, .invokestatic 48), (1311, false, .pop), (1312, true, .aload 2), (1313, false, .aload 0), (1314, false, .iload 3), (1315, false, .iconst 1), (1316, false, .iadd), (1317, false, .faload)]
def pq_l59 : List mq_E := [(1318, false, .aload 0), (1319, false, .iload 3), (1320, false, .iconst 2), (1321, false, .iadd), (1322, false, .faload), (1323, false, .aload 0), (1324, false, .iload 3), (1325, false, .iconst 3), (1326, false, .iadd), (1327, false, .faload), (1328, false, .invokestatic 49), (1331, false, .pop), (1332, false, .goto (Int.ofNat 2094)), (1335, true, .aload 1), (1336, false, .aload 0), (1337, false, .iload 3)]
def pq_l60 : List mq_E := [(1338, false, .iconst 1), (1339, false, .iadd), (1340, false, .faload), (1341, false, .aload 0), (1342, false, .iload 3), (1343, false, .iconst 2), (1344, false, .iadd), (1345, false, .faload), (1346, false, .invokestatic 50), (1349, false, .pop), (1350, true, .aload 2), (1351, false, .aload 0), (1352, false, .iload 3), (1353, false, .iconst 1), (1354, false, .iadd), (1355, false, .faload)]
def pq_l61 : List mq_E := [(1356, false, .aload 0), (1357, false, .iload 3), (1358, false, .iconst 2), (1359, false, .iadd), (1360, false, .faload), (1361, false, .invokestatic 51), (1364, false, .pop), (1365, false, .goto (Int.ofNat 2094)), (1368, true, .aload 1), (1369, false, .aload 0), (1370, false, .iload 3), (1371, false, .iconst 1), (1372, false, .iadd), (1373, false, .faload), (1374, false, .aload 0), (1375, false, .iload 3)]
def pq_l62 : List mq_E := [(1376, false, .iconst 2), (1377, false, .iadd), (1378, false, .faload), (1379, false, .invokestatic 52), (1382, false, .pop), (1383, true, .aload 2), (1384, false, .aload 0), (1385, false, .iload 3), (1386, false, .iconst 1), (1387, false, .iadd), (1388, false, .faload), (1389, false, .aload 0), (1390, false, .iload 3), (1391, false, .iconst 2), (1392, false, .iadd), (1393, false, .faload)]
def pq_l63 : List mq_E := [(1394, false, .invokestatic 53), (1397, false, .pop), (1398, false, .goto (Int.ofNat 2094)), (1401, true, .aload 1), (1402, false, .aload 0), (1403, false, .iload 3), (1404, false, .iconst 1), (1405, false, .iadd), (1406, false, .faload), (1407, false, .aload 0), (1408, false, .iload 3), (1409, false, .iconst 2), (1410, false, .iadd), (1411, false, .faload), (1412, false, .invokestatic 54), (1415, false, .pop)]
def pq_l64 : List mq_E := [(1416, true, .aload 2), (1417, false, .aload 0), (1418, false, .iload 3), (1419, false, .iconst 1), (1420, false, .iadd), (1421, false, .faload), (1422, false, .aload 0), (1423, false, .iload 3), (1424, false, .iconst 2), (1425, false, .iadd), (1426, false, .faload), (1427, false, .invokestatic 55), (1430, false, .pop), (1431, false, .goto (Int.ofNat 2094)), (1434, true, .aload 1), (1435, false, .aload 0)]
def pq_l65 : List mq_E := [(1436, false, .iload 3), (1437, false, .iconst 1), (1438, false, .iadd), (1439, false, .faload), (1440, false, .invokestatic 56), (1443, false, .pop), (1444, true, .aload 2), (1445, false, .aload 0), (1446, false, .iload 3), (1447, false, .iconst 1), (1448, false, .iadd), (1449, false, .faload), (1450, false, .invokestatic 57), (1453, false, .pop), (1454, false, .goto (Int.ofNat 2094)), (1457, true, .aload 1)]
def pq_l66 : List mq_E := [(1458, false, .invokestatic 58), (1461, false, .pop), (1462, true, .aload 2), (1463, false, .invokestatic 59), (1466, false, .pop), (1467, false, .goto (Int.ofNat 2094)), (1470, true, .aload 1), (1471, false, .aload 0), (1472, false, .iload 3), (1473, false, .iconst 1), (1474, false, .iadd), (1475, false, .faload), (1476, false, .invokestatic 60), (1479, false, .pop), (1480, true, .aload 2), (1481, false, .aload 0)]
def pq_l67 : List mq_E := [(1482, false, .iload 3), (1483, false, .iconst 1), (1484, false, .iadd), (1485, false, .faload), (1486, false, .invokestatic 61), (1489, false, .pop), (1490, false, .goto (Int.ofNat 2094)), (1493, true, .aload 1), (1494, false, .aload 0), (1495, false, .iload 3), (1496, false, .iconst 1), (1497, false, .iadd), (1498, false, .faload), (1499, false, .aload 0), (1500, false, .iload 3), (1501, false, .iconst 2)]
def pq_l68 : List mq_E := [(1502, false, .iadd), (1503, false, .faload), (1504, false, .invokestatic 62), (1507, false, .pop), (1508, true, .aload 2), (1509, false, .aload 0), (1510, false, .iload 3), (1511, false, .iconst 1), (1512, false, .iadd), (1513, false, .faload), (1514, false, .aload 0), (1515, false, .iload 3), (1516, false, .iconst 2), (1517, false, .iadd), (1518, false, .faload), (1519, false, .invokestatic 63)]
def pq_l69 : List mq_E := [(1522, false, .pop), (1523, false, .goto (Int.ofNat 2094)), (1526, true, .aload 1), (1527, false, .aload 0), (1528, false, .iload 3), (1529, false, .iconst 1), (1530, false, .iadd), (1531, false, .faload), (1532, false, .invokestatic 64), (1535, false, .pop), (1536, true, .aload 2), (1537, false, .aload 0), (1538, false, .iload 3), (1539, false, .iconst 1), (1540, false, .iadd), (1541, false, .faload)]
def pq_l70 : List mq_E := [(1542, false, .invokestatic 65), (1545, false, .pop), (1546, false, .goto (Int.ofNat 2094)), (1549, true, .aload 1), (1550, false, .aload 0), (1551, false, .iload 3), (1552, false, .iconst 1), (1553, false, .iadd), (1554, false, .faload), (1555, false, .invokestatic 66), (1558, false, .pop), (1559, true, .aload 2), (1560, false, .aload 0), (1561, false, .iload 3), (1562, false, .iconst 1), (1563, false, .iadd)]
def pq_l71 : List mq_E := [(1564, false, .faload), (1565, false, .invokestatic 67), (1568, false, .pop), (1569, false, .goto (Int.ofNat 2094)), (1572, true, .aload 1), (1573, false, .aload 0), (1574, false, .iload 3), (1575, false, .iconst 1), (1576, false, .iadd), (1577, false, .faload), (1578, false, .aload 0), (1579, false, .iload 3), (1580, false, .iconst 2), (1581, false, .iadd), (1582, false, .faload), (1583, false, .invokestatic 68)]
def pq_l72 : List mq_E := [(1586, false, .pop), (1587, true, .aload 2), (1588, false, .aload 0), (1589, false, .iload 3), (1590, false, .iconst 1), (1591, false, .iadd), (1592, false, .faload), (1593, false, .aload 0), (1594, false, .iload 3), (1595, false, .iconst 2), (1596, false, .iadd), (1597, false, .faload), (1598, false, .invokestatic 69), (1601, false, .pop), (1602, false, .goto (Int.ofNat 2094)), (1605, true, .aload 1)]
def pq_l73 : List mq_E := [(1606, false, .aload 0), (1607, false, .iload 3), (1608, false, .iconst 1), (1609, false, .iadd), (1610, false, .faload), (1611, false, .aload 0), (1612, false, .iload 3), (1613, false, .iconst 2), (1614, false, .iadd), (1615, false, .faload), (1616, false, .invokestatic 70), (1619, false, .pop), (1620, true, .aload 2), (1621, false, .aload 0), (1622, false, .iload 3), (1623, false, .iconst 1)]
def pq_l74 : List mq_E := [(1624, false, .iadd), (1625, false, .faload), (1626, false, .aload 0), (1627, false, .iload 3), (1628, false, .iconst 2), (1629, false, .iadd), (1630, false, .faload), (1631, false, .invokestatic 71), (1634, false, .pop), (1635, false, .goto (Int.ofNat 2094)), (1638, true, .aload 1), (1639, false, .aload 0), (1640, false, .iload 3), (1641, false, .iconst 1), (1642, false, .iadd), (1643, false, .faload)]
def pq_l75 : List mq_E := [(1644, false, .invokestatic 72), (1647, false, .pop), (1648, true, .aload 2), (1649, false, .aload 0), (1650, false, .iload 3), (1651, false, .iconst 1), (1652, false, .iadd), (1653, false, .faload), (1654, false, .invokestatic 73), (1657, false, .pop), (1658, false, .goto (Int.ofNat 2094)), (1661, true, .aload 1), (1662, false, .aload 0), (1663, false, .iload 3), (1664, false, .iconst 1), (1665, false, .iadd)]
def pq_l76 : List mq_E := [(1666, false, .faload), (1667, false, .aload 0), (1668, false, .iload 3), (1669, false, .iconst 2), (1670, false, .iadd), (1671, false, .faload), (1672, false, .invokestatic 74), (1675, false, .pop), (1676, true, .aload 2), (1677, false, .aload 0), (1678, false, .iload 3), (1679, false, .iconst 1), (1680, false, .iadd), (1681, false, .faload), (1682, false, .aload 0), (1683, false, .iload 3)]
def pq_l77 : List mq_E := [(1684, false, .iconst 2), (1685, false, .iadd), (1686, false, .faload), (1687, false, .invokestatic 75), (1690, false, .pop), (1691, false, .goto (Int.ofNat 2094)), (1694, true, .aload 1), (1695, false, .aload 0), (1696, false, .iload 3), (1697, false, .iconst 1), (1698, false, .iadd), (1699, false, .faload), (1700, false, .invokestatic 76), (1703, false, .pop), (1704, true, .aload 2), (1705, false, .aload 0)]
def pq_l78 : List mq_E := [(1706, false, .iload 3), (1707, false, .iconst 1), (1708, false, .iadd), (1709, false, .faload), (1710, false, .invokestatic 77), (1713, false, .pop), (1714, false, .goto (Int.ofNat 2094)), (1717, true, .aload 1), (1718, false, .aload 0), (1719, false, .iload 3), (1720, false, .iconst 1), (1721, false, .iadd), (1722, false, .faload), (1723, false, .aload 0), (1724, false, .iload 3), (1725, false, .iconst 2)]
def pq_l79 : List mq_E := [(1726, false, .iadd), (1727, false, .faload), (1728, false, .invokestatic 78), (1731, false, .pop), (1732, true, .aload 2), (1733, false, .aload 0), (1734, false, .iload 3), (1735, false, .iconst 1), (1736, false, .iadd), (1737, false, .faload), (1738, false, .aload 0), (1739, false, .iload 3), (1740, false, .iconst 2), (1741, false, .iadd), (1742, false, .faload), (1743, false, .invokestatic 79)]
def pq_l80 : List mq_E := [(1746, false, .pop), (1747, false, .goto (Int.ofNat 2094)), (1750, true, .aload 1), (1751, false, .aload 0), (1752, false, .iload 3), (1753, false, .iconst 1), (1754, false, .iadd), (1755, false, .faload), (1756, false, .aload 0), (1757, false, .iload 3), (1758, false, .iconst 2), (1759, false, .iadd), (1760, false, .faload), (1761, false, .aload 0), (1762, false, .iload 3), (1763, false, .iconst 3)]
def pq_l81 : List mq_E := [(1764, false, .iadd), (1765, false, .faload), (1766, false, .aload 0), (1767, false, .iload 3), (1768, false, .iconst 4), (1769, false, .iadd), (1770, false, .faload), (1771, false, .invokestatic 80), (1774, false, .pop), (1775, true, .aload 2), (1776, false, .aload 0), (1777, false, .iload 3), (1778, false, .iconst 1), (1779, false, .iadd), (1780, false, .faload), (1781, false, .aload 0)]
def pq_l82 : List mq_E := [(1782, false, .iload 3), (1783, false, .iconst 2), (1784, false, .iadd), (1785, false, .faload), (1786, false, .aload 0), (1787, false, .iload 3), (1788, false, .iconst 3), (1789, false, .iadd), (1790, false, .faload), (1791, false, .aload 0), (1792, false, .iload 3), (1793, false, .iconst 4), (1794, false, .iadd), (1795, false, .faload), (1796, false, .invokestatic 81), (1799, false, .pop)]
def pq_l83 : List mq_E := [(1800, false, .goto (Int.ofNat 2094)), (1803, true, .aload 1), (1804, false, .aload 0), (1805, false, .iload 3), (1806, false, .iconst 1), (1807, false, .iadd), (1808, false, .faload), (1809, false, .aload 0), (1810, false, .iload 3), (1811, false, .iconst 2), (1812, false, .iadd), (1813, false, .faload), (1814, false, .aload 0), (1815, false, .iload 3), (1816, false, .iconst 3), (1817, false, .iadd)]
def pq_l84 : List mq_E := [(1818, false, .faload), (1819, false, .invokestatic 82), (1822, false, .pop), (1823, true, .aload 2), (1824, false, .aload 0), (1825, false, .iload 3), (1826, false, .iconst 1), (1827, false, .iadd), (1828, false, .faload), (1829, false, .aload 0), (1830, false, .iload 3), (1831, false, .iconst 2), (1832, false, .iadd), (1833, false, .faload), (1834, false, .aload 0), (1835, false, .iload 3)]
def pq_l85 : List mq_E := [(1836, false, .iconst 3), (1837, false, .iadd), (1838, false, .faload), (1839, false, .invokestatic 83), (1842, false, .pop), (1843, false, .goto (Int.ofNat 2094)), (1846, true, .aload 1), (1847, false, .aload 0), (1848, false, .iload 3), (1849, false, .iconst 1), (1850, false, .iadd), (1851, false, .faload), (1852, false, .invokestatic 84), (1855, false, .pop), (1856, true, .aload 2), (1857, false, .aload 0)]
def pq_l86 : List mq_E := [(1858, false, .iload 3), (1859, false, .iconst 1), (1860, false, .iadd), (1861, false, .faload), (1862, false, .invokestatic 85), (1865, false, .pop), (1866, false, .goto (Int.ofNat 2094)), (1869, true, .aload 1), (1870, false, .aload 0), (1871, false, .iload 3), (1872, false, .iconst 1), (1873, false, .iadd), (1874, false, .faload), (1875, false, .invokestatic 86), (1878, false, .pop), (1879, false, .aload 2)]
def pq_l87 : List mq_E := [(1880, false, .aload 0), (1881, false, .iload 3), (1882, false, .iconst 1), (1883, false, .iadd), (1884, false, .faload), (1885, false, .invokestatic 87), (1888, false, .pop), (1889, false, .goto (Int.ofNat 2094)), (1892, true, .aload 1), (1893, false, .aload 0), (1894, false, .iload 3), (1895, false, .iconst 1), (1896, false, .iadd), (1897, false, .faload), (1898, false, .invokestatic 88), (1901, false, .aload 2)]
def pq_l88 : List mq_E := [(1902, false, .aload 0), (1903, false, .iload 3), (1904, false, .iconst 1), (1905, false, .iadd), (1906, false, .faload), (1907, false, .invokestatic 89), (1910, false, .if_icmp .eq (Int.ofNat 2094)), (1913, false, .iconst 0), (1914, false, .ireturn), (1915, true, .aload 1), (1916, false, .aload 0), (1917, false, .iload 3), (1918, false, .iconst 1), (1919, false, .iadd), (1920, false, .faload), (1921, false, .aload 0)]
def pq_l89 : List mq_E := [(1922, false, .iload 3), (1923, false, .iconst 2), (1924, false, .iadd), (1925, false, .faload), (1926, false, .aload 0), (1927, false, .iload 3), (1928, false, .iconst 3), (1929, false, .iadd), (1930, false, .faload), (1931, false, .invokestatic 90), (1934, false, .pop), (1935, true, .aload 2), (1936, false, .aload 0), (1937, false, .iload 3), (1938, false, .iconst 1), (1939, false, .iadd)]
def pq_l90 : List mq_E := [(1940, false, .faload), (1941, false, .aload 0), (1942, false, .iload 3), (1943, false, .iconst 2), (1944, false, .iadd), (1945, false, .faload), (1946, false, .aload 0), (1947, false, .iload 3), (1948, false, .iconst 3), (1949, false, .iadd), (1950, false, .faload), (1951, false, .invokestatic 91), (1954, false, .pop), (1955, false, .goto (Int.ofNat 2094)), (1958, true, .aload 1), (1959, false, .aload 0)]
def pq_l91 : List mq_E := [(1960, false, .iload 3), (1961, false, .iconst 1), (1962, false, .iadd), (1963, false, .faload), (1964, false, .aload 0), (1965, false, .iload 3), (1966, false, .iconst 2), (1967, false, .iadd), (1968, false, .faload), (1969, false, .aload 0), (1970, false, .iload 3), (1971, false, .iconst 3), (1972, false, .iadd), (1973, false, .faload), (1974, false, .i2l), (1975, false, .iconst 32)]
def pq_l92 : List mq_E := [(1977, false, .lshl), (1978, false, .aload 0), (1979, false, .iload 3), (1980, false, .iconst 4), (1981, false, .iadd), (1982, false, .faload), (1983, false, .i2l), (1984, false, .goto_w 4294967295), (1987, false, .land), (1988, false, .lor), (1989, false, .invokestatic 92), (1992, false, .pop), (1993, true, .aload 2), (1994, false, .aload 0), (1995, false, .iload 3), (1996, false, .iconst 1)]
def pq_l93 : List mq_E := [(1997, false, .iadd), (1998, false, .faload), (1999, false, .aload 0), (2000, false, .iload 3), (2001, false, .iconst 2), (2002, false, .iadd), (2003, false, .faload), (2004, false, .aload 0), (2005, false, .iload 3), (2006, false, .iconst 3), (2007, false, .iadd), (2008, false, .faload), (2009, false, .i2l), (2010, false, .iconst 32), (2012, false, .lshl), (2013, false, .aload 0)]
def pq_l94 : List mq_E := [(2014, false, .iload 3), (2015, false, .iconst 4), (2016, false, .iadd), (2017, false, .faload), (2018, false, .i2l), (2019, false, .goto_w 4294967295), (2022, false, .land), (2023, false, .lor), (2024, false, .invokestatic 93), (2027, false, .pop), (2028, false, .goto (Int.ofNat 2094)), (2031, true, .aload 1), (2032, false, .aload 0), (2033, false, .iload 3), (2034, false, .iconst 1), (2035, false, .iadd)]
def pq_l95 : List mq_E := [(2036, false, .faload), (2037, false, .aload 0), (2038, false, .iload 3), (2039, false, .iconst 2), (2040, false, .iadd), (2041, false, .faload), (2042, false, .aload 0), (2043, false, .iload 3), (2044, false, .iconst 3), (2045, false, .iadd), (2046, false, .faload), (2047, false, .aload 0), (2048, false, .iload 3), (2049, false, .iconst 4), (2050, false, .iadd), (2051, false, .faload)]
def pq_l96 : List mq_E := [(2052, false, .aload 0), (2053, false, .iload 3), (2054, false, .iconst 5), (2055, false, .iadd), (2056, false, .faload), (2057, false, .invokestatic 94), (2060, false, .pop), (2061, true, .aload 2), (2062, false, .aload 0), (2063, false, .iload 3), (2064, false, .iconst 1), (2065, false, .iadd), (2066, false, .faload), (2067, false, .aload 0), (2068, false, .iload 3), (2069, false, .iconst 2)]
def pq_l97 : List mq_E := [(2070, false, .iadd), (2071, false, .faload), (2072, false, .aload 0), (2073, false, .iload 3), (2074, false, .iconst 3), (2075, false, .iadd), (2076, false, .faload), (2077, false, .aload 0), (2078, false, .iload 3), (2079, false, .iconst 4), (2080, false, .iadd), (2081, false, .faload), (2082, false, .aload 0), (2083, false, .iload 3), (2084, false, .iconst 5), (2085, false, .iadd)]
def pq_l98 : List mq_E := [(2086, false, .faload), (2087, false, .invokestatic 95), (2090, false, .pop), (2091, false, .goto (Int.ofNat 2094)), (2094, true, .iinc 3 6), (2097, false, .goto (Int.ofNat 18)), (2100, false, .iconst 1), (2101, false, .ireturn)]
set_option maxRecDepth 100000 in
def pq_law : List mq_E := pq_l0 ++ (pq_l1 ++ (pq_l2 ++ (pq_l3 ++ (pq_l4 ++ (pq_l5 ++ (pq_l6 ++ (pq_l7 ++ (pq_l8 ++ (pq_l9 ++ (pq_l10 ++ (pq_l11 ++ (pq_l12 ++ (pq_l13 ++ (pq_l14 ++ (pq_l15 ++ (pq_l16 ++ (pq_l17 ++ (pq_l18 ++ (pq_l19 ++ (pq_l20 ++ (pq_l21 ++ (pq_l22 ++ (pq_l23 ++ (pq_l24 ++ (pq_l25 ++ (pq_l26 ++ (pq_l27 ++ (pq_l28 ++ (pq_l29 ++ (pq_l30 ++ (pq_l31 ++ (pq_l32 ++ (pq_l33 ++ (pq_l34 ++ (pq_l35 ++ (pq_l36 ++ (pq_l37 ++ (pq_l38 ++ (pq_l39 ++ (pq_l40 ++ (pq_l41 ++ (pq_l42 ++ (pq_l43 ++ (pq_l44 ++ (pq_l45 ++ (pq_l46 ++ (pq_l47 ++ (pq_l48 ++ (pq_l49 ++ (pq_l50 ++ (pq_l51 ++ (pq_l52 ++ (pq_l53 ++ (pq_l54 ++ (pq_l55 ++ (pq_l56 ++ (pq_l57 ++ (pq_l58 ++ (pq_l59 ++ (pq_l60 ++ (pq_l61 ++ (pq_l62 ++ (pq_l63 ++ (pq_l64 ++ (pq_l65 ++ (pq_l66 ++ (pq_l67 ++ (pq_l68 ++ (pq_l69 ++ (pq_l70 ++ (pq_l71 ++ (pq_l72 ++ (pq_l73 ++ (pq_l74 ++ (pq_l75 ++ (pq_l76 ++ (pq_l77 ++ (pq_l78 ++ (pq_l79 ++ (pq_l80 ++ (pq_l81 ++ (pq_l82 ++ (pq_l83 ++ (pq_l84 ++ (pq_l85 ++ (pq_l86 ++ (pq_l87 ++ (pq_l88 ++ (pq_l89 ++ (pq_l90 ++ (pq_l91 ++ (pq_l92 ++ (pq_l93 ++ (pq_l94 ++ (pq_l95 ++ (pq_l96 ++ (pq_l97 ++ (pq_l98 ++ []))))))))))))))))))))))))))))))))))))))))))))))))))))))))))))))))))))))))))))))))))))))))))))))))))
set_option maxRecDepth 100000 in
def kq_law : List mq_Cu := [(18, [true, true, true, true], fun (N : Nat) (l : mq_L) (st : List mq_V) (ρ' : mq_R) (μ' : mq_M) (cs : Nat) => mq_tR l 97 fun i0 l => mq_tZ l 0 fun l => mq_tZ l 60 fun l => mq_tI l fun v3 l => mq_t0 l (st = [] ∧ i0 = 0 ∧ 6 * (cs : Int) ≤ 360 + 16 * v3 ∧ 0 ≤ v3 ∧ v3 ≤ 384 ∧ μ' (97, 0) 0 ≤ 384 ∧ sq_bx (sq_inv (μ' (69, 0)) (μ' (76, 0))) ∧ sq_bx (∀ x : Nat, μ' (23, 0) x = μ' (77, 0) x) ∧ 0 ≤ (4 * (400 - v3) + 3 : Int) ∧ (4 * (400 - v3) + 3 : Int) < (N : Int))),
  (240, [true, true, true, true], fun (N : Nat) (l : mq_L) (st : List mq_V) (ρ' : mq_R) (μ' : mq_M) (cs : Nat) => mq_tR l 97 fun i0 l => mq_tZ l 0 fun l => mq_tZ l 60 fun l => mq_tI l fun v3 l => mq_t0 l (st = [] ∧ i0 = 0 ∧ 6 * (cs : Int) ≤ 360 + 16 * v3 ∧ 0 ≤ v3 ∧ v3 ≤ 384 ∧ μ' (97, 0) 0 ≤ 384 ∧ v3 + 6 ≤ μ' (97, 0) 0 ∧ sq_bx (sq_inv (μ' (69, 0)) (μ' (76, 0))) ∧ sq_bx (∀ x : Nat, μ' (23, 0) x = μ' (77, 0) x) ∧ 0 ≤ (4 * (400 - v3) + 2 : Int) ∧ (4 * (400 - v3) + 2 : Int) < (N : Int))),
  (270, [true, true, true, true], fun (N : Nat) (l : mq_L) (st : List mq_V) (ρ' : mq_R) (μ' : mq_M) (cs : Nat) => mq_tR l 97 fun i0 l => mq_tZ l 0 fun l => mq_tZ l 60 fun l => mq_tI l fun v3 l => mq_t0 l (st = [] ∧ i0 = 0 ∧ 6 * (cs : Int) ≤ 360 + 16 * (v3 + 6) ∧ 0 ≤ v3 ∧ v3 ≤ 384 ∧ μ' (97, 0) 0 ≤ 384 ∧ v3 + 6 ≤ μ' (97, 0) 0 ∧ sq_bx (sq_inv (μ' (69, 0)) (μ' (76, 0))) ∧ sq_bx (∀ x : Nat, μ' (23, 0) x = μ' (77, 0) x) ∧ 0 ≤ (4 * (400 - v3) + 1 : Int) ∧ (4 * (400 - v3) + 1 : Int) < (N : Int))),
  (303, [true, true, true, true], fun (N : Nat) (l : mq_L) (st : List mq_V) (ρ' : mq_R) (μ' : mq_M) (cs : Nat) => mq_tR l 97 fun i0 l => mq_tZ l 0 fun l => mq_tZ l 60 fun l => mq_tI l fun v3 l => mq_t0 l (st = [] ∧ i0 = 0 ∧ 6 * (cs : Int) ≤ 360 + 16 * v3 ∧ 0 ≤ v3 ∧ v3 ≤ 384 ∧ μ' (97, 0) 0 ≤ 384 ∧ v3 + 6 ≤ μ' (97, 0) 0 ∧ sq_bx (sq_inv (μ' (69, 0)) (μ' (76, 0))) ∧ sq_bx (∀ x : Nat, μ' (23, 0) x = μ' (77, 0) x) ∧ 0 ≤ (4 * (400 - v3) + 2 : Int) ∧ (4 * (400 - v3) + 2 : Int) < (N : Int))),
  (313, [true, true, true, true], fun (N : Nat) (l : mq_L) (st : List mq_V) (ρ' : mq_R) (μ' : mq_M) (cs : Nat) => mq_tR l 97 fun i0 l => mq_tZ l 0 fun l => mq_tZ l 60 fun l => mq_tI l fun v3 l => mq_t0 l (st = [] ∧ i0 = 0 ∧ 6 * (cs : Int) ≤ 360 + 16 * (v3 + 6) ∧ 0 ≤ v3 ∧ v3 ≤ 384 ∧ μ' (97, 0) 0 ≤ 384 ∧ v3 + 6 ≤ μ' (97, 0) 0 ∧ sq_bx (sq_inv (μ' (69, 0)) (μ' (76, 0))) ∧ sq_bx (∀ x : Nat, μ' (23, 0) x = μ' (77, 0) x) ∧ 0 ≤ (4 * (400 - v3) + 1 : Int) ∧ (4 * (400 - v3) + 1 : Int) < (N : Int))),
  (326, [true, true, true, true], fun (N : Nat) (l : mq_L) (st : List mq_V) (ρ' : mq_R) (μ' : mq_M) (cs : Nat) => mq_tR l 97 fun i0 l => mq_tZ l 0 fun l => mq_tZ l 60 fun l => mq_tI l fun v3 l => mq_t0 l (st = [] ∧ i0 = 0 ∧ 6 * (cs : Int) ≤ 360 + 16 * v3 ∧ 0 ≤ v3 ∧ v3 ≤ 384 ∧ μ' (97, 0) 0 ≤ 384 ∧ v3 + 6 ≤ μ' (97, 0) 0 ∧ sq_bx (sq_inv (μ' (69, 0)) (μ' (76, 0))) ∧ sq_bx (∀ x : Nat, μ' (23, 0) x = μ' (77, 0) x) ∧ 0 ≤ (4 * (400 - v3) + 2 : Int) ∧ (4 * (400 - v3) + 2 : Int) < (N : Int))),
  (331, [true, true, true, true], fun (N : Nat) (l : mq_L) (st : List mq_V) (ρ' : mq_R) (μ' : mq_M) (cs : Nat) => mq_tR l 97 fun i0 l => mq_tZ l 0 fun l => mq_tZ l 60 fun l => mq_tI l fun v3 l => mq_t0 l (st = [] ∧ i0 = 0 ∧ 6 * (cs : Int) ≤ 360 + 16 * (v3 + 6) ∧ 0 ≤ v3 ∧ v3 ≤ 384 ∧ μ' (97, 0) 0 ≤ 384 ∧ v3 + 6 ≤ μ' (97, 0) 0 ∧ sq_bx (sq_inv (μ' (69, 0)) (μ' (76, 0))) ∧ sq_bx (∀ x : Nat, μ' (23, 0) x = μ' (77, 0) x) ∧ 0 ≤ (4 * (400 - v3) + 1 : Int) ∧ (4 * (400 - v3) + 1 : Int) < (N : Int))),
  (339, [true, true, true, true], fun (N : Nat) (l : mq_L) (st : List mq_V) (ρ' : mq_R) (μ' : mq_M) (cs : Nat) => mq_tR l 97 fun i0 l => mq_tZ l 0 fun l => mq_tZ l 60 fun l => mq_tI l fun v3 l => mq_t0 l (st = [] ∧ i0 = 0 ∧ 6 * (cs : Int) ≤ 360 + 16 * v3 ∧ 0 ≤ v3 ∧ v3 ≤ 384 ∧ μ' (97, 0) 0 ≤ 384 ∧ v3 + 6 ≤ μ' (97, 0) 0 ∧ sq_bx (sq_inv (μ' (69, 0)) (μ' (76, 0))) ∧ sq_bx (∀ x : Nat, μ' (23, 0) x = μ' (77, 0) x) ∧ 0 ≤ (4 * (400 - v3) + 2 : Int) ∧ (4 * (400 - v3) + 2 : Int) < (N : Int))),
  (349, [true, true, true, true], fun (N : Nat) (l : mq_L) (st : List mq_V) (ρ' : mq_R) (μ' : mq_M) (cs : Nat) => mq_tR l 97 fun i0 l => mq_tZ l 0 fun l => mq_tZ l 60 fun l => mq_tI l fun v3 l => mq_t0 l (st = [] ∧ i0 = 0 ∧ 6 * (cs : Int) ≤ 360 + 16 * (v3 + 6) ∧ 0 ≤ v3 ∧ v3 ≤ 384 ∧ μ' (97, 0) 0 ≤ 384 ∧ v3 + 6 ≤ μ' (97, 0) 0 ∧ sq_bx (sq_inv (μ' (69, 0)) (μ' (76, 0))) ∧ sq_bx (∀ x : Nat, μ' (23, 0) x = μ' (77, 0) x) ∧ 0 ≤ (4 * (400 - v3) + 1 : Int) ∧ (4 * (400 - v3) + 1 : Int) < (N : Int))),
  (362, [true, true, true, true], fun (N : Nat) (l : mq_L) (st : List mq_V) (ρ' : mq_R) (μ' : mq_M) (cs : Nat) => mq_tR l 97 fun i0 l => mq_tZ l 0 fun l => mq_tZ l 60 fun l => mq_tI l fun v3 l => mq_t0 l (st = [] ∧ i0 = 0 ∧ 6 * (cs : Int) ≤ 360 + 16 * v3 ∧ 0 ≤ v3 ∧ v3 ≤ 384 ∧ μ' (97, 0) 0 ≤ 384 ∧ v3 + 6 ≤ μ' (97, 0) 0 ∧ sq_bx (sq_inv (μ' (69, 0)) (μ' (76, 0))) ∧ sq_bx (∀ x : Nat, μ' (23, 0) x = μ' (77, 0) x) ∧ 0 ≤ (4 * (400 - v3) + 2 : Int) ∧ (4 * (400 - v3) + 2 : Int) < (N : Int))),
  (377, [true, true, true, true], fun (N : Nat) (l : mq_L) (st : List mq_V) (ρ' : mq_R) (μ' : mq_M) (cs : Nat) => mq_tR l 97 fun i0 l => mq_tZ l 0 fun l => mq_tZ l 60 fun l => mq_tI l fun v3 l => mq_t0 l (st = [] ∧ i0 = 0 ∧ 6 * (cs : Int) ≤ 360 + 16 * (v3 + 6) ∧ 0 ≤ v3 ∧ v3 ≤ 384 ∧ μ' (97, 0) 0 ≤ 384 ∧ v3 + 6 ≤ μ' (97, 0) 0 ∧ sq_bx (sq_inv (μ' (69, 0)) (μ' (76, 0))) ∧ sq_bx (∀ x : Nat, μ' (23, 0) x = μ' (77, 0) x) ∧ 0 ≤ (4 * (400 - v3) + 1 : Int) ∧ (4 * (400 - v3) + 1 : Int) < (N : Int))),
  (395, [true, true, true, true], fun (N : Nat) (l : mq_L) (st : List mq_V) (ρ' : mq_R) (μ' : mq_M) (cs : Nat) => mq_tR l 97 fun i0 l => mq_tZ l 0 fun l => mq_tZ l 60 fun l => mq_tI l fun v3 l => mq_t0 l (st = [] ∧ i0 = 0 ∧ 6 * (cs : Int) ≤ 360 + 16 * v3 ∧ 0 ≤ v3 ∧ v3 ≤ 384 ∧ μ' (97, 0) 0 ≤ 384 ∧ v3 + 6 ≤ μ' (97, 0) 0 ∧ sq_bx (sq_inv (μ' (69, 0)) (μ' (76, 0))) ∧ sq_bx (∀ x : Nat, μ' (23, 0) x = μ' (77, 0) x) ∧ 0 ≤ (4 * (400 - v3) + 2 : Int) ∧ (4 * (400 - v3) + 2 : Int) < (N : Int))),
  (410, [true, true, true, true], fun (N : Nat) (l : mq_L) (st : List mq_V) (ρ' : mq_R) (μ' : mq_M) (cs : Nat) => mq_tR l 97 fun i0 l => mq_tZ l 0 fun l => mq_tZ l 60 fun l => mq_tI l fun v3 l => mq_t0 l (st = [] ∧ i0 = 0 ∧ 6 * (cs : Int) ≤ 360 + 16 * (v3 + 6) ∧ 0 ≤ v3 ∧ v3 ≤ 384 ∧ μ' (97, 0) 0 ≤ 384 ∧ v3 + 6 ≤ μ' (97, 0) 0 ∧ sq_bx (sq_inv (μ' (69, 0)) (μ' (76, 0))) ∧ sq_bx (∀ x : Nat, μ' (23, 0) x = μ' (77, 0) x) ∧ 0 ≤ (4 * (400 - v3) + 1 : Int) ∧ (4 * (400 - v3) + 1 : Int) < (N : Int))),
  (428, [true, true, true, true], fun (N : Nat) (l : mq_L) (st : List mq_V) (ρ' : mq_R) (μ' : mq_M) (cs : Nat) => mq_tR l 97 fun i0 l => mq_tZ l 0 fun l => mq_tZ l 60 fun l => mq_tI l fun v3 l => mq_t0 l (st = [] ∧ i0 = 0 ∧ 6 * (cs : Int) ≤ 360 + 16 * v3 ∧ 0 ≤ v3 ∧ v3 ≤ 384 ∧ μ' (97, 0) 0 ≤ 384 ∧ v3 + 6 ≤ μ' (97, 0) 0 ∧ sq_bx (sq_inv (μ' (69, 0)) (μ' (76, 0))) ∧ sq_bx (∀ x : Nat, μ' (23, 0) x = μ' (77, 0) x) ∧ 0 ≤ (4 * (400 - v3) + 2 : Int) ∧ (4 * (400 - v3) + 2 : Int) < (N : Int))),
  (438, [true, true, true, true], fun (N : Nat) (l : mq_L) (st : List mq_V) (ρ' : mq_R) (μ' : mq_M) (cs : Nat) => mq_tR l 97 fun i0 l => mq_tZ l 0 fun l => mq_tZ l 60 fun l => mq_tI l fun v3 l => mq_t0 l (st = [] ∧ i0 = 0 ∧ 6 * (cs : Int) ≤ 360 + 16 * (v3 + 6) ∧ 0 ≤ v3 ∧ v3 ≤ 384 ∧ μ' (97, 0) 0 ≤ 384 ∧ v3 + 6 ≤ μ' (97, 0) 0 ∧ sq_bx (sq_inv (μ' (69, 0)) (μ' (76, 0))) ∧ sq_bx (∀ x : Nat, μ' (23, 0) x = μ' (77, 0) x) ∧ 0 ≤ (4 * (400 - v3) + 1 : Int) ∧ (4 * (400 - v3) + 1 : Int) < (N : Int))),
  (451, [true, true, true, true], fun (N : Nat) (l : mq_L) (st : List mq_V) (ρ' : mq_R) (μ' : mq_M) (cs : Nat) => mq_tR l 97 fun i0 l => mq_tZ l 0 fun l => mq_tZ l 60 fun l => mq_tI l fun v3 l => mq_t0 l (st = [] ∧ i0 = 0 ∧ 6 * (cs : Int) ≤ 360 + 16 * v3 ∧ 0 ≤ v3 ∧ v3 ≤ 384 ∧ μ' (97, 0) 0 ≤ 384 ∧ v3 + 6 ≤ μ' (97, 0) 0 ∧ sq_bx (sq_inv (μ' (69, 0)) (μ' (76, 0))) ∧ sq_bx (∀ x : Nat, μ' (23, 0) x = μ' (77, 0) x) ∧ 0 ≤ (4 * (400 - v3) + 2 : Int) ∧ (4 * (400 - v3) + 2 : Int) < (N : Int))),
  (466, [true, true, true, true], fun (N : Nat) (l : mq_L) (st : List mq_V) (ρ' : mq_R) (μ' : mq_M) (cs : Nat) => mq_tR l 97 fun i0 l => mq_tZ l 0 fun l => mq_tZ l 60 fun l => mq_tI l fun v3 l => mq_t0 l (st = [] ∧ i0 = 0 ∧ 6 * (cs : Int) ≤ 360 + 16 * (v3 + 6) ∧ 0 ≤ v3 ∧ v3 ≤ 384 ∧ μ' (97, 0) 0 ≤ 384 ∧ v3 + 6 ≤ μ' (97, 0) 0 ∧ sq_bx (sq_inv (μ' (69, 0)) (μ' (76, 0))) ∧ sq_bx (∀ x : Nat, μ' (23, 0) x = μ' (77, 0) x) ∧ 0 ≤ (4 * (400 - v3) + 1 : Int) ∧ (4 * (400 - v3) + 1 : Int) < (N : Int))),
  (484, [true, true, true, true], fun (N : Nat) (l : mq_L) (st : List mq_V) (ρ' : mq_R) (μ' : mq_M) (cs : Nat) => mq_tR l 97 fun i0 l => mq_tZ l 0 fun l => mq_tZ l 60 fun l => mq_tI l fun v3 l => mq_t0 l (st = [] ∧ i0 = 0 ∧ 6 * (cs : Int) ≤ 360 + 16 * v3 ∧ 0 ≤ v3 ∧ v3 ≤ 384 ∧ μ' (97, 0) 0 ≤ 384 ∧ v3 + 6 ≤ μ' (97, 0) 0 ∧ sq_bx (sq_inv (μ' (69, 0)) (μ' (76, 0))) ∧ sq_bx (∀ x : Nat, μ' (23, 0) x = μ' (77, 0) x) ∧ 0 ≤ (4 * (400 - v3) + 2 : Int) ∧ (4 * (400 - v3) + 2 : Int) < (N : Int))),
  (499, [true, true, true, true], fun (N : Nat) (l : mq_L) (st : List mq_V) (ρ' : mq_R) (μ' : mq_M) (cs : Nat) => mq_tR l 97 fun i0 l => mq_tZ l 0 fun l => mq_tZ l 60 fun l => mq_tI l fun v3 l => mq_t0 l (st = [] ∧ i0 = 0 ∧ 6 * (cs : Int) ≤ 360 + 16 * (v3 + 6) ∧ 0 ≤ v3 ∧ v3 ≤ 384 ∧ μ' (97, 0) 0 ≤ 384 ∧ v3 + 6 ≤ μ' (97, 0) 0 ∧ sq_bx (sq_inv (μ' (69, 0)) (μ' (76, 0))) ∧ sq_bx (∀ x : Nat, μ' (23, 0) x = μ' (77, 0) x) ∧ 0 ≤ (4 * (400 - v3) + 1 : Int) ∧ (4 * (400 - v3) + 1 : Int) < (N : Int))),
  (517, [true, true, true, true], fun (N : Nat) (l : mq_L) (st : List mq_V) (ρ' : mq_R) (μ' : mq_M) (cs : Nat) => mq_tR l 97 fun i0 l => mq_tZ l 0 fun l => mq_tZ l 60 fun l => mq_tI l fun v3 l => mq_t0 l (st = [] ∧ i0 = 0 ∧ 6 * (cs : Int) ≤ 360 + 16 * v3 ∧ 0 ≤ v3 ∧ v3 ≤ 384 ∧ μ' (97, 0) 0 ≤ 384 ∧ v3 + 6 ≤ μ' (97, 0) 0 ∧ sq_bx (sq_inv (μ' (69, 0)) (μ' (76, 0))) ∧ sq_bx (∀ x : Nat, μ' (23, 0) x = μ' (77, 0) x) ∧ 0 ≤ (4 * (400 - v3) + 2 : Int) ∧ (4 * (400 - v3) + 2 : Int) < (N : Int))),
  (532, [true, true, true, true], fun (N : Nat) (l : mq_L) (st : List mq_V) (ρ' : mq_R) (μ' : mq_M) (cs : Nat) => mq_tR l 97 fun i0 l => mq_tZ l 0 fun l => mq_tZ l 60 fun l => mq_tI l fun v3 l => mq_t0 l (st = [] ∧ i0 = 0 ∧ 6 * (cs : Int) ≤ 360 + 16 * (v3 + 6) ∧ 0 ≤ v3 ∧ v3 ≤ 384 ∧ μ' (97, 0) 0 ≤ 384 ∧ v3 + 6 ≤ μ' (97, 0) 0 ∧ sq_bx (sq_inv (μ' (69, 0)) (μ' (76, 0))) ∧ sq_bx (∀ x : Nat, μ' (23, 0) x = μ' (77, 0) x) ∧ 0 ≤ (4 * (400 - v3) + 1 : Int) ∧ (4 * (400 - v3) + 1 : Int) < (N : Int))),
  (550, [true, true, true, true], fun (N : Nat) (l : mq_L) (st : List mq_V) (ρ' : mq_R) (μ' : mq_M) (cs : Nat) => mq_tR l 97 fun i0 l => mq_tZ l 0 fun l => mq_tZ l 60 fun l => mq_tI l fun v3 l => mq_t0 l (st = [] ∧ i0 = 0 ∧ 6 * (cs : Int) ≤ 360 + 16 * v3 ∧ 0 ≤ v3 ∧ v3 ≤ 384 ∧ μ' (97, 0) 0 ≤ 384 ∧ v3 + 6 ≤ μ' (97, 0) 0 ∧ sq_bx (sq_inv (μ' (69, 0)) (μ' (76, 0))) ∧ sq_bx (∀ x : Nat, μ' (23, 0) x = μ' (77, 0) x) ∧ 0 ≤ (4 * (400 - v3) + 2 : Int) ∧ (4 * (400 - v3) + 2 : Int) < (N : Int))),
  (580, [true, true, true, true], fun (N : Nat) (l : mq_L) (st : List mq_V) (ρ' : mq_R) (μ' : mq_M) (cs : Nat) => mq_tR l 97 fun i0 l => mq_tZ l 0 fun l => mq_tZ l 60 fun l => mq_tI l fun v3 l => mq_t0 l (st = [] ∧ i0 = 0 ∧ 6 * (cs : Int) ≤ 360 + 16 * (v3 + 6) ∧ 0 ≤ v3 ∧ v3 ≤ 384 ∧ μ' (97, 0) 0 ≤ 384 ∧ v3 + 6 ≤ μ' (97, 0) 0 ∧ sq_bx (sq_inv (μ' (69, 0)) (μ' (76, 0))) ∧ sq_bx (∀ x : Nat, μ' (23, 0) x = μ' (77, 0) x) ∧ 0 ≤ (4 * (400 - v3) + 1 : Int) ∧ (4 * (400 - v3) + 1 : Int) < (N : Int))),
  (613, [true, true, true, true], fun (N : Nat) (l : mq_L) (st : List mq_V) (ρ' : mq_R) (μ' : mq_M) (cs : Nat) => mq_tR l 97 fun i0 l => mq_tZ l 0 fun l => mq_tZ l 60 fun l => mq_tI l fun v3 l => mq_t0 l (st = [] ∧ i0 = 0 ∧ 6 * (cs : Int) ≤ 360 + 16 * v3 ∧ 0 ≤ v3 ∧ v3 ≤ 384 ∧ μ' (97, 0) 0 ≤ 384 ∧ v3 + 6 ≤ μ' (97, 0) 0 ∧ sq_bx (sq_inv (μ' (69, 0)) (μ' (76, 0))) ∧ sq_bx (∀ x : Nat, μ' (23, 0) x = μ' (77, 0) x) ∧ 0 ≤ (4 * (400 - v3) + 2 : Int) ∧ (4 * (400 - v3) + 2 : Int) < (N : Int))),
  (638, [true, true, true, true], fun (N : Nat) (l : mq_L) (st : List mq_V) (ρ' : mq_R) (μ' : mq_M) (cs : Nat) => mq_tR l 97 fun i0 l => mq_tZ l 0 fun l => mq_tZ l 60 fun l => mq_tI l fun v3 l => mq_t0 l (st = [] ∧ i0 = 0 ∧ 6 * (cs : Int) ≤ 360 + 16 * (v3 + 6) ∧ 0 ≤ v3 ∧ v3 ≤ 384 ∧ μ' (97, 0) 0 ≤ 384 ∧ v3 + 6 ≤ μ' (97, 0) 0 ∧ sq_bx (sq_inv (μ' (69, 0)) (μ' (76, 0))) ∧ sq_bx (∀ x : Nat, μ' (23, 0) x = μ' (77, 0) x) ∧ 0 ≤ (4 * (400 - v3) + 1 : Int) ∧ (4 * (400 - v3) + 1 : Int) < (N : Int))),
  (666, [true, true, true, true], fun (N : Nat) (l : mq_L) (st : List mq_V) (ρ' : mq_R) (μ' : mq_M) (cs : Nat) => mq_tR l 97 fun i0 l => mq_tZ l 0 fun l => mq_tZ l 60 fun l => mq_tI l fun v3 l => mq_t0 l (st = [] ∧ i0 = 0 ∧ 6 * (cs : Int) ≤ 360 + 16 * v3 ∧ 0 ≤ v3 ∧ v3 ≤ 384 ∧ μ' (97, 0) 0 ≤ 384 ∧ v3 + 6 ≤ μ' (97, 0) 0 ∧ sq_bx (sq_inv (μ' (69, 0)) (μ' (76, 0))) ∧ sq_bx (∀ x : Nat, μ' (23, 0) x = μ' (77, 0) x) ∧ 0 ≤ (4 * (400 - v3) + 2 : Int) ∧ (4 * (400 - v3) + 2 : Int) < (N : Int))),
  (691, [true, true, true, true], fun (N : Nat) (l : mq_L) (st : List mq_V) (ρ' : mq_R) (μ' : mq_M) (cs : Nat) => mq_tR l 97 fun i0 l => mq_tZ l 0 fun l => mq_tZ l 60 fun l => mq_tI l fun v3 l => mq_t0 l (st = [] ∧ i0 = 0 ∧ 6 * (cs : Int) ≤ 360 + 16 * (v3 + 6) ∧ 0 ≤ v3 ∧ v3 ≤ 384 ∧ μ' (97, 0) 0 ≤ 384 ∧ v3 + 6 ≤ μ' (97, 0) 0 ∧ sq_bx (sq_inv (μ' (69, 0)) (μ' (76, 0))) ∧ sq_bx (∀ x : Nat, μ' (23, 0) x = μ' (77, 0) x) ∧ 0 ≤ (4 * (400 - v3) + 1 : Int) ∧ (4 * (400 - v3) + 1 : Int) < (N : Int))),
  (719, [true, true, true, true], fun (N : Nat) (l : mq_L) (st : List mq_V) (ρ' : mq_R) (μ' : mq_M) (cs : Nat) => mq_tR l 97 fun i0 l => mq_tZ l 0 fun l => mq_tZ l 60 fun l => mq_tI l fun v3 l => mq_t0 l (st = [] ∧ i0 = 0 ∧ 6 * (cs : Int) ≤ 360 + 16 * v3 ∧ 0 ≤ v3 ∧ v3 ≤ 384 ∧ μ' (97, 0) 0 ≤ 384 ∧ v3 + 6 ≤ μ' (97, 0) 0 ∧ sq_bx (sq_inv (μ' (69, 0)) (μ' (76, 0))) ∧ sq_bx (∀ x : Nat, μ' (23, 0) x = μ' (77, 0) x) ∧ 0 ≤ (4 * (400 - v3) + 2 : Int) ∧ (4 * (400 - v3) + 2 : Int) < (N : Int))),
  (749, [true, true, true, true], fun (N : Nat) (l : mq_L) (st : List mq_V) (ρ' : mq_R) (μ' : mq_M) (cs : Nat) => mq_tR l 97 fun i0 l => mq_tZ l 0 fun l => mq_tZ l 60 fun l => mq_tI l fun v3 l => mq_t0 l (st = [] ∧ i0 = 0 ∧ 6 * (cs : Int) ≤ 360 + 16 * (v3 + 6) ∧ 0 ≤ v3 ∧ v3 ≤ 384 ∧ μ' (97, 0) 0 ≤ 384 ∧ v3 + 6 ≤ μ' (97, 0) 0 ∧ sq_bx (sq_inv (μ' (69, 0)) (μ' (76, 0))) ∧ sq_bx (∀ x : Nat, μ' (23, 0) x = μ' (77, 0) x) ∧ 0 ≤ (4 * (400 - v3) + 1 : Int) ∧ (4 * (400 - v3) + 1 : Int) < (N : Int))),
  (782, [true, true, true, true], fun (N : Nat) (l : mq_L) (st : List mq_V) (ρ' : mq_R) (μ' : mq_M) (cs : Nat) => mq_tR l 97 fun i0 l => mq_tZ l 0 fun l => mq_tZ l 60 fun l => mq_tI l fun v3 l => mq_t0 l (st = [] ∧ i0 = 0 ∧ 6 * (cs : Int) ≤ 360 + 16 * v3 ∧ 0 ≤ v3 ∧ v3 ≤ 384 ∧ μ' (97, 0) 0 ≤ 384 ∧ v3 + 6 ≤ μ' (97, 0) 0 ∧ sq_bx (sq_inv (μ' (69, 0)) (μ' (76, 0))) ∧ sq_bx (∀ x : Nat, μ' (23, 0) x = μ' (77, 0) x) ∧ 0 ≤ (4 * (400 - v3) + 2 : Int) ∧ (4 * (400 - v3) + 2 : Int) < (N : Int))),
  (807, [true, true, true, true], fun (N : Nat) (l : mq_L) (st : List mq_V) (ρ' : mq_R) (μ' : mq_M) (cs : Nat) => mq_tR l 97 fun i0 l => mq_tZ l 0 fun l => mq_tZ l 60 fun l => mq_tI l fun v3 l => mq_t0 l (st = [] ∧ i0 = 0 ∧ 6 * (cs : Int) ≤ 360 + 16 * (v3 + 6) ∧ 0 ≤ v3 ∧ v3 ≤ 384 ∧ μ' (97, 0) 0 ≤ 384 ∧ v3 + 6 ≤ μ' (97, 0) 0 ∧ sq_bx (sq_inv (μ' (69, 0)) (μ' (76, 0))) ∧ sq_bx (∀ x : Nat, μ' (23, 0) x = μ' (77, 0) x) ∧ 0 ≤ (4 * (400 - v3) + 1 : Int) ∧ (4 * (400 - v3) + 1 : Int) < (N : Int))),
  (835, [true, true, true, true], fun (N : Nat) (l : mq_L) (st : List mq_V) (ρ' : mq_R) (μ' : mq_M) (cs : Nat) => mq_tR l 97 fun i0 l => mq_tZ l 0 fun l => mq_tZ l 60 fun l => mq_tI l fun v3 l => mq_t0 l (st = [] ∧ i0 = 0 ∧ 6 * (cs : Int) ≤ 360 + 16 * v3 ∧ 0 ≤ v3 ∧ v3 ≤ 384 ∧ μ' (97, 0) 0 ≤ 384 ∧ v3 + 6 ≤ μ' (97, 0) 0 ∧ sq_bx (sq_inv (μ' (69, 0)) (μ' (76, 0))) ∧ sq_bx (∀ x : Nat, μ' (23, 0) x = μ' (77, 0) x) ∧ 0 ≤ (4 * (400 - v3) + 2 : Int) ∧ (4 * (400 - v3) + 2 : Int) < (N : Int))),
  (860, [true, true, true, true], fun (N : Nat) (l : mq_L) (st : List mq_V) (ρ' : mq_R) (μ' : mq_M) (cs : Nat) => mq_tR l 97 fun i0 l => mq_tZ l 0 fun l => mq_tZ l 60 fun l => mq_tI l fun v3 l => mq_t0 l (st = [] ∧ i0 = 0 ∧ 6 * (cs : Int) ≤ 360 + 16 * (v3 + 6) ∧ 0 ≤ v3 ∧ v3 ≤ 384 ∧ μ' (97, 0) 0 ≤ 384 ∧ v3 + 6 ≤ μ' (97, 0) 0 ∧ sq_bx (sq_inv (μ' (69, 0)) (μ' (76, 0))) ∧ sq_bx (∀ x : Nat, μ' (23, 0) x = μ' (77, 0) x) ∧ 0 ≤ (4 * (400 - v3) + 1 : Int) ∧ (4 * (400 - v3) + 1 : Int) < (N : Int))),
  (888, [true, true, true, true], fun (N : Nat) (l : mq_L) (st : List mq_V) (ρ' : mq_R) (μ' : mq_M) (cs : Nat) => mq_tR l 97 fun i0 l => mq_tZ l 0 fun l => mq_tZ l 60 fun l => mq_tI l fun v3 l => mq_t0 l (st = [] ∧ i0 = 0 ∧ 6 * (cs : Int) ≤ 360 + 16 * v3 ∧ 0 ≤ v3 ∧ v3 ≤ 384 ∧ μ' (97, 0) 0 ≤ 384 ∧ v3 + 6 ≤ μ' (97, 0) 0 ∧ sq_bx (sq_inv (μ' (69, 0)) (μ' (76, 0))) ∧ sq_bx (∀ x : Nat, μ' (23, 0) x = μ' (77, 0) x) ∧ 0 ≤ (4 * (400 - v3) + 2 : Int) ∧ (4 * (400 - v3) + 2 : Int) < (N : Int))),
  (913, [true, true, true, true], fun (N : Nat) (l : mq_L) (st : List mq_V) (ρ' : mq_R) (μ' : mq_M) (cs : Nat) => mq_tR l 97 fun i0 l => mq_tZ l 0 fun l => mq_tZ l 60 fun l => mq_tI l fun v3 l => mq_t0 l (st = [] ∧ i0 = 0 ∧ 6 * (cs : Int) ≤ 360 + 16 * (v3 + 6) ∧ 0 ≤ v3 ∧ v3 ≤ 384 ∧ μ' (97, 0) 0 ≤ 384 ∧ v3 + 6 ≤ μ' (97, 0) 0 ∧ sq_bx (sq_inv (μ' (69, 0)) (μ' (76, 0))) ∧ sq_bx (∀ x : Nat, μ' (23, 0) x = μ' (77, 0) x) ∧ 0 ≤ (4 * (400 - v3) + 1 : Int) ∧ (4 * (400 - v3) + 1 : Int) < (N : Int))),
  (941, [true, true, true, true], fun (N : Nat) (l : mq_L) (st : List mq_V) (ρ' : mq_R) (μ' : mq_M) (cs : Nat) => mq_tR l 97 fun i0 l => mq_tZ l 0 fun l => mq_tZ l 60 fun l => mq_tI l fun v3 l => mq_t0 l (st = [] ∧ i0 = 0 ∧ 6 * (cs : Int) ≤ 360 + 16 * v3 ∧ 0 ≤ v3 ∧ v3 ≤ 384 ∧ μ' (97, 0) 0 ≤ 384 ∧ v3 + 6 ≤ μ' (97, 0) 0 ∧ sq_bx (sq_inv (μ' (69, 0)) (μ' (76, 0))) ∧ sq_bx (∀ x : Nat, μ' (23, 0) x = μ' (77, 0) x) ∧ 0 ≤ (4 * (400 - v3) + 2 : Int) ∧ (4 * (400 - v3) + 2 : Int) < (N : Int))),
  (966, [true, true, true, true], fun (N : Nat) (l : mq_L) (st : List mq_V) (ρ' : mq_R) (μ' : mq_M) (cs : Nat) => mq_tR l 97 fun i0 l => mq_tZ l 0 fun l => mq_tZ l 60 fun l => mq_tI l fun v3 l => mq_t0 l (st = [] ∧ i0 = 0 ∧ 6 * (cs : Int) ≤ 360 + 16 * (v3 + 6) ∧ 0 ≤ v3 ∧ v3 ≤ 384 ∧ μ' (97, 0) 0 ≤ 384 ∧ v3 + 6 ≤ μ' (97, 0) 0 ∧ sq_bx (sq_inv (μ' (69, 0)) (μ' (76, 0))) ∧ sq_bx (∀ x : Nat, μ' (23, 0) x = μ' (77, 0) x) ∧ 0 ≤ (4 * (400 - v3) + 1 : Int) ∧ (4 * (400 - v3) + 1 : Int) < (N : Int))),
  (994, [true, true, true, true], fun (N : Nat) (l : mq_L) (st : List mq_V) (ρ' : mq_R) (μ' : mq_M) (cs : Nat) => mq_tR l 97 fun i0 l => mq_tZ l 0 fun l => mq_tZ l 60 fun l => mq_tI l fun v3 l => mq_t0 l (st = [] ∧ i0 = 0 ∧ 6 * (cs : Int) ≤ 360 + 16 * v3 ∧ 0 ≤ v3 ∧ v3 ≤ 384 ∧ μ' (97, 0) 0 ≤ 384 ∧ v3 + 6 ≤ μ' (97, 0) 0 ∧ sq_bx (sq_inv (μ' (69, 0)) (μ' (76, 0))) ∧ sq_bx (∀ x : Nat, μ' (23, 0) x = μ' (77, 0) x) ∧ 0 ≤ (4 * (400 - v3) + 2 : Int) ∧ (4 * (400 - v3) + 2 : Int) < (N : Int))),
  (1019, [true, true, true, true], fun (N : Nat) (l : mq_L) (st : List mq_V) (ρ' : mq_R) (μ' : mq_M) (cs : Nat) => mq_tR l 97 fun i0 l => mq_tZ l 0 fun l => mq_tZ l 60 fun l => mq_tI l fun v3 l => mq_t0 l (st = [] ∧ i0 = 0 ∧ 6 * (cs : Int) ≤ 360 + 16 * (v3 + 6) ∧ 0 ≤ v3 ∧ v3 ≤ 384 ∧ μ' (97, 0) 0 ≤ 384 ∧ v3 + 6 ≤ μ' (97, 0) 0 ∧ sq_bx (sq_inv (μ' (69, 0)) (μ' (76, 0))) ∧ sq_bx (∀ x : Nat, μ' (23, 0) x = μ' (77, 0) x) ∧ 0 ≤ (4 * (400 - v3) + 1 : Int) ∧ (4 * (400 - v3) + 1 : Int) < (N : Int))),
  (1047, [true, true, true, true], fun (N : Nat) (l : mq_L) (st : List mq_V) (ρ' : mq_R) (μ' : mq_M) (cs : Nat) => mq_tR l 97 fun i0 l => mq_tZ l 0 fun l => mq_tZ l 60 fun l => mq_tI l fun v3 l => mq_t0 l (st = [] ∧ i0 = 0 ∧ 6 * (cs : Int) ≤ 360 + 16 * v3 ∧ 0 ≤ v3 ∧ v3 ≤ 384 ∧ μ' (97, 0) 0 ≤ 384 ∧ v3 + 6 ≤ μ' (97, 0) 0 ∧ sq_bx (sq_inv (μ' (69, 0)) (μ' (76, 0))) ∧ sq_bx (∀ x : Nat, μ' (23, 0) x = μ' (77, 0) x) ∧ 0 ≤ (4 * (400 - v3) + 2 : Int) ∧ (4 * (400 - v3) + 2 : Int) < (N : Int))),
  (1067, [true, true, true, true], fun (N : Nat) (l : mq_L) (st : List mq_V) (ρ' : mq_R) (μ' : mq_M) (cs : Nat) => mq_tR l 97 fun i0 l => mq_tZ l 0 fun l => mq_tZ l 60 fun l => mq_tI l fun v3 l => mq_t0 l (st = [] ∧ i0 = 0 ∧ 6 * (cs : Int) ≤ 360 + 16 * (v3 + 6) ∧ 0 ≤ v3 ∧ v3 ≤ 384 ∧ μ' (97, 0) 0 ≤ 384 ∧ v3 + 6 ≤ μ' (97, 0) 0 ∧ sq_bx (sq_inv (μ' (69, 0)) (μ' (76, 0))) ∧ sq_bx (∀ x : Nat, μ' (23, 0) x = μ' (77, 0) x) ∧ 0 ≤ (4 * (400 - v3) + 1 : Int) ∧ (4 * (400 - v3) + 1 : Int) < (N : Int))),
  (1090, [true, true, true, true], fun (N : Nat) (l : mq_L) (st : List mq_V) (ρ' : mq_R) (μ' : mq_M) (cs : Nat) => mq_tR l 97 fun i0 l => mq_tZ l 0 fun l => mq_tZ l 60 fun l => mq_tI l fun v3 l => mq_t0 l (st = [] ∧ i0 = 0 ∧ 6 * (cs : Int) ≤ 360 + 16 * v3 ∧ 0 ≤ v3 ∧ v3 ≤ 384 ∧ μ' (97, 0) 0 ≤ 384 ∧ v3 + 6 ≤ μ' (97, 0) 0 ∧ sq_bx (sq_inv (μ' (69, 0)) (μ' (76, 0))) ∧ sq_bx (∀ x : Nat, μ' (23, 0) x = μ' (77, 0) x) ∧ 0 ≤ (4 * (400 - v3) + 2 : Int) ∧ (4 * (400 - v3) + 2 : Int) < (N : Int))),
  (1115, [true, true, true, true], fun (N : Nat) (l : mq_L) (st : List mq_V) (ρ' : mq_R) (μ' : mq_M) (cs : Nat) => mq_tR l 97 fun i0 l => mq_tZ l 0 fun l => mq_tZ l 60 fun l => mq_tI l fun v3 l => mq_t0 l (st = [] ∧ i0 = 0 ∧ 6 * (cs : Int) ≤ 360 + 16 * (v3 + 6) ∧ 0 ≤ v3 ∧ v3 ≤ 384 ∧ μ' (97, 0) 0 ≤ 384 ∧ v3 + 6 ≤ μ' (97, 0) 0 ∧ sq_bx (sq_inv (μ' (69, 0)) (μ' (76, 0))) ∧ sq_bx (∀ x : Nat, μ' (23, 0) x = μ' (77, 0) x) ∧ 0 ≤ (4 * (400 - v3) + 1 : Int) ∧ (4 * (400 - v3) + 1 : Int) < (N : Int))),
  (1143, [true, true, true, true], fun (N : Nat) (l : mq_L) (st : List mq_V) (ρ' : mq_R) (μ' : mq_M) (cs : Nat) => mq_tR l 97 fun i0 l => mq_tZ l 0 fun l => mq_tZ l 60 fun l => mq_tI l fun v3 l => mq_t0 l (st = [] ∧ i0 = 0 ∧ 6 * (cs : Int) ≤ 360 + 16 * v3 ∧ 0 ≤ v3 ∧ v3 ≤ 384 ∧ μ' (97, 0) 0 ≤ 384 ∧ v3 + 6 ≤ μ' (97, 0) 0 ∧ sq_bx (sq_inv (μ' (69, 0)) (μ' (76, 0))) ∧ sq_bx (∀ x : Nat, μ' (23, 0) x = μ' (77, 0) x) ∧ 0 ≤ (4 * (400 - v3) + 2 : Int) ∧ (4 * (400 - v3) + 2 : Int) < (N : Int))),
  (1158, [true, true, true, true], fun (N : Nat) (l : mq_L) (st : List mq_V) (ρ' : mq_R) (μ' : mq_M) (cs : Nat) => mq_tR l 97 fun i0 l => mq_tZ l 0 fun l => mq_tZ l 60 fun l => mq_tI l fun v3 l => mq_t0 l (st = [] ∧ i0 = 0 ∧ 6 * (cs : Int) ≤ 360 + 16 * (v3 + 6) ∧ 0 ≤ v3 ∧ v3 ≤ 384 ∧ μ' (97, 0) 0 ≤ 384 ∧ v3 + 6 ≤ μ' (97, 0) 0 ∧ sq_bx (sq_inv (μ' (69, 0)) (μ' (76, 0))) ∧ sq_bx (∀ x : Nat, μ' (23, 0) x = μ' (77, 0) x) ∧ 0 ≤ (4 * (400 - v3) + 1 : Int) ∧ (4 * (400 - v3) + 1 : Int) < (N : Int))),
  (1176, [true, true, true, true], fun (N : Nat) (l : mq_L) (st : List mq_V) (ρ' : mq_R) (μ' : mq_M) (cs : Nat) => mq_tR l 97 fun i0 l => mq_tZ l 0 fun l => mq_tZ l 60 fun l => mq_tI l fun v3 l => mq_t0 l (st = [] ∧ i0 = 0 ∧ 6 * (cs : Int) ≤ 360 + 16 * v3 ∧ 0 ≤ v3 ∧ v3 ≤ 384 ∧ μ' (97, 0) 0 ≤ 384 ∧ v3 + 6 ≤ μ' (97, 0) 0 ∧ sq_bx (sq_inv (μ' (69, 0)) (μ' (76, 0))) ∧ sq_bx (∀ x : Nat, μ' (23, 0) x = μ' (77, 0) x) ∧ 0 ≤ (4 * (400 - v3) + 2 : Int) ∧ (4 * (400 - v3) + 2 : Int) < (N : Int))),
  (1201, [true, true, true, true], fun (N : Nat) (l : mq_L) (st : List mq_V) (ρ' : mq_R) (μ' : mq_M) (cs : Nat) => mq_tR l 97 fun i0 l => mq_tZ l 0 fun l => mq_tZ l 60 fun l => mq_tI l fun v3 l => mq_t0 l (st = [] ∧ i0 = 0 ∧ 6 * (cs : Int) ≤ 360 + 16 * (v3 + 6) ∧ 0 ≤ v3 ∧ v3 ≤ 384 ∧ μ' (97, 0) 0 ≤ 384 ∧ v3 + 6 ≤ μ' (97, 0) 0 ∧ sq_bx (sq_inv (μ' (69, 0)) (μ' (76, 0))) ∧ sq_bx (∀ x : Nat, μ' (23, 0) x = μ' (77, 0) x) ∧ 0 ≤ (4 * (400 - v3) + 1 : Int) ∧ (4 * (400 - v3) + 1 : Int) < (N : Int))),
  (1229, [true, true, true, true], fun (N : Nat) (l : mq_L) (st : List mq_V) (ρ' : mq_R) (μ' : mq_M) (cs : Nat) => mq_tR l 97 fun i0 l => mq_tZ l 0 fun l => mq_tZ l 60 fun l => mq_tI l fun v3 l => mq_t0 l (st = [] ∧ i0 = 0 ∧ 6 * (cs : Int) ≤ 360 + 16 * v3 ∧ 0 ≤ v3 ∧ v3 ≤ 384 ∧ μ' (97, 0) 0 ≤ 384 ∧ v3 + 6 ≤ μ' (97, 0) 0 ∧ sq_bx (sq_inv (μ' (69, 0)) (μ' (76, 0))) ∧ sq_bx (∀ x : Nat, μ' (23, 0) x = μ' (77, 0) x) ∧ 0 ≤ (4 * (400 - v3) + 2 : Int) ∧ (4 * (400 - v3) + 2 : Int) < (N : Int))),
  (1259, [true, true, true, true], fun (N : Nat) (l : mq_L) (st : List mq_V) (ρ' : mq_R) (μ' : mq_M) (cs : Nat) => mq_tR l 97 fun i0 l => mq_tZ l 0 fun l => mq_tZ l 60 fun l => mq_tI l fun v3 l => mq_t0 l (st = [] ∧ i0 = 0 ∧ 6 * (cs : Int) ≤ 360 + 16 * (v3 + 6) ∧ 0 ≤ v3 ∧ v3 ≤ 384 ∧ μ' (97, 0) 0 ≤ 384 ∧ v3 + 6 ≤ μ' (97, 0) 0 ∧ sq_bx (sq_inv (μ' (69, 0)) (μ' (76, 0))) ∧ sq_bx (∀ x : Nat, μ' (23, 0) x = μ' (77, 0) x) ∧ 0 ≤ (4 * (400 - v3) + 1 : Int) ∧ (4 * (400 - v3) + 1 : Int) < (N : Int))),
  (1292, [true, true, true, true], fun (N : Nat) (l : mq_L) (st : List mq_V) (ρ' : mq_R) (μ' : mq_M) (cs : Nat) => mq_tR l 97 fun i0 l => mq_tZ l 0 fun l => mq_tZ l 60 fun l => mq_tI l fun v3 l => mq_t0 l (st = [] ∧ i0 = 0 ∧ 6 * (cs : Int) ≤ 360 + 16 * v3 ∧ 0 ≤ v3 ∧ v3 ≤ 384 ∧ μ' (97, 0) 0 ≤ 384 ∧ v3 + 6 ≤ μ' (97, 0) 0 ∧ sq_bx (sq_inv (μ' (69, 0)) (μ' (76, 0))) ∧ sq_bx (∀ x : Nat, μ' (23, 0) x = μ' (77, 0) x) ∧ 0 ≤ (4 * (400 - v3) + 2 : Int) ∧ (4 * (400 - v3) + 2 : Int) < (N : Int))),
  (1312, [true, true, true, true], fun (N : Nat) (l : mq_L) (st : List mq_V) (ρ' : mq_R) (μ' : mq_M) (cs : Nat) => mq_tR l 97 fun i0 l => mq_tZ l 0 fun l => mq_tZ l 60 fun l => mq_tI l fun v3 l => mq_t0 l (st = [] ∧ i0 = 0 ∧ 6 * (cs : Int) ≤ 360 + 16 * (v3 + 6) ∧ 0 ≤ v3 ∧ v3 ≤ 384 ∧ μ' (97, 0) 0 ≤ 384 ∧ v3 + 6 ≤ μ' (97, 0) 0 ∧ sq_bx (sq_inv (μ' (69, 0)) (μ' (76, 0))) ∧ sq_bx (∀ x : Nat, μ' (23, 0) x = μ' (77, 0) x) ∧ 0 ≤ (4 * (400 - v3) + 1 : Int) ∧ (4 * (400 - v3) + 1 : Int) < (N : Int))),
  (1335, [true, true, true, true], fun (N : Nat) (l : mq_L) (st : List mq_V) (ρ' : mq_R) (μ' : mq_M) (cs : Nat) => mq_tR l 97 fun i0 l => mq_tZ l 0 fun l => mq_tZ l 60 fun l => mq_tI l fun v3 l => mq_t0 l (st = [] ∧ i0 = 0 ∧ 6 * (cs : Int) ≤ 360 + 16 * v3 ∧ 0 ≤ v3 ∧ v3 ≤ 384 ∧ μ' (97, 0) 0 ≤ 384 ∧ v3 + 6 ≤ μ' (97, 0) 0 ∧ sq_bx (sq_inv (μ' (69, 0)) (μ' (76, 0))) ∧ sq_bx (∀ x : Nat, μ' (23, 0) x = μ' (77, 0) x) ∧ 0 ≤ (4 * (400 - v3) + 2 : Int) ∧ (4 * (400 - v3) + 2 : Int) < (N : Int))),
  (1350, [true, true, true, true], fun (N : Nat) (l : mq_L) (st : List mq_V) (ρ' : mq_R) (μ' : mq_M) (cs : Nat) => mq_tR l 97 fun i0 l => mq_tZ l 0 fun l => mq_tZ l 60 fun l => mq_tI l fun v3 l => mq_t0 l (st = [] ∧ i0 = 0 ∧ 6 * (cs : Int) ≤ 360 + 16 * (v3 + 6) ∧ 0 ≤ v3 ∧ v3 ≤ 384 ∧ μ' (97, 0) 0 ≤ 384 ∧ v3 + 6 ≤ μ' (97, 0) 0 ∧ sq_bx (sq_inv (μ' (69, 0)) (μ' (76, 0))) ∧ sq_bx (∀ x : Nat, μ' (23, 0) x = μ' (77, 0) x) ∧ 0 ≤ (4 * (400 - v3) + 1 : Int) ∧ (4 * (400 - v3) + 1 : Int) < (N : Int))),
  (1368, [true, true, true, true], fun (N : Nat) (l : mq_L) (st : List mq_V) (ρ' : mq_R) (μ' : mq_M) (cs : Nat) => mq_tR l 97 fun i0 l => mq_tZ l 0 fun l => mq_tZ l 60 fun l => mq_tI l fun v3 l => mq_t0 l (st = [] ∧ i0 = 0 ∧ 6 * (cs : Int) ≤ 360 + 16 * v3 ∧ 0 ≤ v3 ∧ v3 ≤ 384 ∧ μ' (97, 0) 0 ≤ 384 ∧ v3 + 6 ≤ μ' (97, 0) 0 ∧ sq_bx (sq_inv (μ' (69, 0)) (μ' (76, 0))) ∧ sq_bx (∀ x : Nat, μ' (23, 0) x = μ' (77, 0) x) ∧ 0 ≤ (4 * (400 - v3) + 2 : Int) ∧ (4 * (400 - v3) + 2 : Int) < (N : Int))),
  (1383, [true, true, true, true], fun (N : Nat) (l : mq_L) (st : List mq_V) (ρ' : mq_R) (μ' : mq_M) (cs : Nat) => mq_tR l 97 fun i0 l => mq_tZ l 0 fun l => mq_tZ l 60 fun l => mq_tI l fun v3 l => mq_t0 l (st = [] ∧ i0 = 0 ∧ 6 * (cs : Int) ≤ 360 + 16 * (v3 + 6) ∧ 0 ≤ v3 ∧ v3 ≤ 384 ∧ μ' (97, 0) 0 ≤ 384 ∧ v3 + 6 ≤ μ' (97, 0) 0 ∧ sq_bx (sq_inv (μ' (69, 0)) (μ' (76, 0))) ∧ sq_bx (∀ x : Nat, μ' (23, 0) x = μ' (77, 0) x) ∧ 0 ≤ (4 * (400 - v3) + 1 : Int) ∧ (4 * (400 - v3) + 1 : Int) < (N : Int))),
  (1401, [true, true, true, true], fun (N : Nat) (l : mq_L) (st : List mq_V) (ρ' : mq_R) (μ' : mq_M) (cs : Nat) => mq_tR l 97 fun i0 l => mq_tZ l 0 fun l => mq_tZ l 60 fun l => mq_tI l fun v3 l => mq_t0 l (st = [] ∧ i0 = 0 ∧ 6 * (cs : Int) ≤ 360 + 16 * v3 ∧ 0 ≤ v3 ∧ v3 ≤ 384 ∧ μ' (97, 0) 0 ≤ 384 ∧ v3 + 6 ≤ μ' (97, 0) 0 ∧ sq_bx (sq_inv (μ' (69, 0)) (μ' (76, 0))) ∧ sq_bx (∀ x : Nat, μ' (23, 0) x = μ' (77, 0) x) ∧ 0 ≤ (4 * (400 - v3) + 2 : Int) ∧ (4 * (400 - v3) + 2 : Int) < (N : Int))),
  (1416, [true, true, true, true], fun (N : Nat) (l : mq_L) (st : List mq_V) (ρ' : mq_R) (μ' : mq_M) (cs : Nat) => mq_tR l 97 fun i0 l => mq_tZ l 0 fun l => mq_tZ l 60 fun l => mq_tI l fun v3 l => mq_t0 l (st = [] ∧ i0 = 0 ∧ 6 * (cs : Int) ≤ 360 + 16 * (v3 + 6) ∧ 0 ≤ v3 ∧ v3 ≤ 384 ∧ μ' (97, 0) 0 ≤ 384 ∧ v3 + 6 ≤ μ' (97, 0) 0 ∧ sq_bx (sq_inv (μ' (69, 0)) (μ' (76, 0))) ∧ sq_bx (∀ x : Nat, μ' (23, 0) x = μ' (77, 0) x) ∧ 0 ≤ (4 * (400 - v3) + 1 : Int) ∧ (4 * (400 - v3) + 1 : Int) < (N : Int))),
  (1434, [true, true, true, true], fun (N : Nat) (l : mq_L) (st : List mq_V) (ρ' : mq_R) (μ' : mq_M) (cs : Nat) => mq_tR l 97 fun i0 l => mq_tZ l 0 fun l => mq_tZ l 60 fun l => mq_tI l fun v3 l => mq_t0 l (st = [] ∧ i0 = 0 ∧ 6 * (cs : Int) ≤ 360 + 16 * v3 ∧ 0 ≤ v3 ∧ v3 ≤ 384 ∧ μ' (97, 0) 0 ≤ 384 ∧ v3 + 6 ≤ μ' (97, 0) 0 ∧ sq_bx (sq_inv (μ' (69, 0)) (μ' (76, 0))) ∧ sq_bx (∀ x : Nat, μ' (23, 0) x = μ' (77, 0) x) ∧ 0 ≤ (4 * (400 - v3) + 2 : Int) ∧ (4 * (400 - v3) + 2 : Int) < (N : Int))),
  (1444, [true, true, true, true], fun (N : Nat) (l : mq_L) (st : List mq_V) (ρ' : mq_R) (μ' : mq_M) (cs : Nat) => mq_tR l 97 fun i0 l => mq_tZ l 0 fun l => mq_tZ l 60 fun l => mq_tI l fun v3 l => mq_t0 l (st = [] ∧ i0 = 0 ∧ 6 * (cs : Int) ≤ 360 + 16 * (v3 + 6) ∧ 0 ≤ v3 ∧ v3 ≤ 384 ∧ μ' (97, 0) 0 ≤ 384 ∧ v3 + 6 ≤ μ' (97, 0) 0 ∧ sq_bx (sq_inv (μ' (69, 0)) (μ' (76, 0))) ∧ sq_bx (∀ x : Nat, μ' (23, 0) x = μ' (77, 0) x) ∧ 0 ≤ (4 * (400 - v3) + 1 : Int) ∧ (4 * (400 - v3) + 1 : Int) < (N : Int))),
  (1457, [true, true, true, true], fun (N : Nat) (l : mq_L) (st : List mq_V) (ρ' : mq_R) (μ' : mq_M) (cs : Nat) => mq_tR l 97 fun i0 l => mq_tZ l 0 fun l => mq_tZ l 60 fun l => mq_tI l fun v3 l => mq_t0 l (st = [] ∧ i0 = 0 ∧ 6 * (cs : Int) ≤ 360 + 16 * v3 ∧ 0 ≤ v3 ∧ v3 ≤ 384 ∧ μ' (97, 0) 0 ≤ 384 ∧ v3 + 6 ≤ μ' (97, 0) 0 ∧ sq_bx (sq_inv (μ' (69, 0)) (μ' (76, 0))) ∧ sq_bx (∀ x : Nat, μ' (23, 0) x = μ' (77, 0) x) ∧ 0 ≤ (4 * (400 - v3) + 2 : Int) ∧ (4 * (400 - v3) + 2 : Int) < (N : Int))),
  (1462, [true, true, true, true], fun (N : Nat) (l : mq_L) (st : List mq_V) (ρ' : mq_R) (μ' : mq_M) (cs : Nat) => mq_tR l 97 fun i0 l => mq_tZ l 0 fun l => mq_tZ l 60 fun l => mq_tI l fun v3 l => mq_t0 l (st = [] ∧ i0 = 0 ∧ 6 * (cs : Int) ≤ 360 + 16 * (v3 + 6) ∧ 0 ≤ v3 ∧ v3 ≤ 384 ∧ μ' (97, 0) 0 ≤ 384 ∧ v3 + 6 ≤ μ' (97, 0) 0 ∧ sq_bx (sq_inv (μ' (69, 0)) (μ' (76, 0))) ∧ sq_bx (∀ x : Nat, μ' (23, 0) x = μ' (77, 0) x) ∧ 0 ≤ (4 * (400 - v3) + 1 : Int) ∧ (4 * (400 - v3) + 1 : Int) < (N : Int))),
  (1470, [true, true, true, true], fun (N : Nat) (l : mq_L) (st : List mq_V) (ρ' : mq_R) (μ' : mq_M) (cs : Nat) => mq_tR l 97 fun i0 l => mq_tZ l 0 fun l => mq_tZ l 60 fun l => mq_tI l fun v3 l => mq_t0 l (st = [] ∧ i0 = 0 ∧ 6 * (cs : Int) ≤ 360 + 16 * v3 ∧ 0 ≤ v3 ∧ v3 ≤ 384 ∧ μ' (97, 0) 0 ≤ 384 ∧ v3 + 6 ≤ μ' (97, 0) 0 ∧ sq_bx (sq_inv (μ' (69, 0)) (μ' (76, 0))) ∧ sq_bx (∀ x : Nat, μ' (23, 0) x = μ' (77, 0) x) ∧ 0 ≤ (4 * (400 - v3) + 2 : Int) ∧ (4 * (400 - v3) + 2 : Int) < (N : Int))),
  (1480, [true, true, true, true], fun (N : Nat) (l : mq_L) (st : List mq_V) (ρ' : mq_R) (μ' : mq_M) (cs : Nat) => mq_tR l 97 fun i0 l => mq_tZ l 0 fun l => mq_tZ l 60 fun l => mq_tI l fun v3 l => mq_t0 l (st = [] ∧ i0 = 0 ∧ 6 * (cs : Int) ≤ 360 + 16 * (v3 + 6) ∧ 0 ≤ v3 ∧ v3 ≤ 384 ∧ μ' (97, 0) 0 ≤ 384 ∧ v3 + 6 ≤ μ' (97, 0) 0 ∧ sq_bx (sq_inv (μ' (69, 0)) (μ' (76, 0))) ∧ sq_bx (∀ x : Nat, μ' (23, 0) x = μ' (77, 0) x) ∧ 0 ≤ (4 * (400 - v3) + 1 : Int) ∧ (4 * (400 - v3) + 1 : Int) < (N : Int))),
  (1493, [true, true, true, true], fun (N : Nat) (l : mq_L) (st : List mq_V) (ρ' : mq_R) (μ' : mq_M) (cs : Nat) => mq_tR l 97 fun i0 l => mq_tZ l 0 fun l => mq_tZ l 60 fun l => mq_tI l fun v3 l => mq_t0 l (st = [] ∧ i0 = 0 ∧ 6 * (cs : Int) ≤ 360 + 16 * v3 ∧ 0 ≤ v3 ∧ v3 ≤ 384 ∧ μ' (97, 0) 0 ≤ 384 ∧ v3 + 6 ≤ μ' (97, 0) 0 ∧ sq_bx (sq_inv (μ' (69, 0)) (μ' (76, 0))) ∧ sq_bx (∀ x : Nat, μ' (23, 0) x = μ' (77, 0) x) ∧ 0 ≤ (4 * (400 - v3) + 2 : Int) ∧ (4 * (400 - v3) + 2 : Int) < (N : Int))),
  (1508, [true, true, true, true], fun (N : Nat) (l : mq_L) (st : List mq_V) (ρ' : mq_R) (μ' : mq_M) (cs : Nat) => mq_tR l 97 fun i0 l => mq_tZ l 0 fun l => mq_tZ l 60 fun l => mq_tI l fun v3 l => mq_t0 l (st = [] ∧ i0 = 0 ∧ 6 * (cs : Int) ≤ 360 + 16 * (v3 + 6) ∧ 0 ≤ v3 ∧ v3 ≤ 384 ∧ μ' (97, 0) 0 ≤ 384 ∧ v3 + 6 ≤ μ' (97, 0) 0 ∧ sq_bx (sq_inv (μ' (69, 0)) (μ' (76, 0))) ∧ sq_bx (∀ x : Nat, μ' (23, 0) x = μ' (77, 0) x) ∧ 0 ≤ (4 * (400 - v3) + 1 : Int) ∧ (4 * (400 - v3) + 1 : Int) < (N : Int))),
  (1526, [true, true, true, true], fun (N : Nat) (l : mq_L) (st : List mq_V) (ρ' : mq_R) (μ' : mq_M) (cs : Nat) => mq_tR l 97 fun i0 l => mq_tZ l 0 fun l => mq_tZ l 60 fun l => mq_tI l fun v3 l => mq_t0 l (st = [] ∧ i0 = 0 ∧ 6 * (cs : Int) ≤ 360 + 16 * v3 ∧ 0 ≤ v3 ∧ v3 ≤ 384 ∧ μ' (97, 0) 0 ≤ 384 ∧ v3 + 6 ≤ μ' (97, 0) 0 ∧ sq_bx (sq_inv (μ' (69, 0)) (μ' (76, 0))) ∧ sq_bx (∀ x : Nat, μ' (23, 0) x = μ' (77, 0) x) ∧ 0 ≤ (4 * (400 - v3) + 2 : Int) ∧ (4 * (400 - v3) + 2 : Int) < (N : Int))),
  (1536, [true, true, true, true], fun (N : Nat) (l : mq_L) (st : List mq_V) (ρ' : mq_R) (μ' : mq_M) (cs : Nat) => mq_tR l 97 fun i0 l => mq_tZ l 0 fun l => mq_tZ l 60 fun l => mq_tI l fun v3 l => mq_t0 l (st = [] ∧ i0 = 0 ∧ 6 * (cs : Int) ≤ 360 + 16 * (v3 + 6) ∧ 0 ≤ v3 ∧ v3 ≤ 384 ∧ μ' (97, 0) 0 ≤ 384 ∧ v3 + 6 ≤ μ' (97, 0) 0 ∧ sq_bx (sq_inv (μ' (69, 0)) (μ' (76, 0))) ∧ sq_bx (∀ x : Nat, μ' (23, 0) x = μ' (77, 0) x) ∧ 0 ≤ (4 * (400 - v3) + 1 : Int) ∧ (4 * (400 - v3) + 1 : Int) < (N : Int))),
  (1549, [true, true, true, true], fun (N : Nat) (l : mq_L) (st : List mq_V) (ρ' : mq_R) (μ' : mq_M) (cs : Nat) => mq_tR l 97 fun i0 l => mq_tZ l 0 fun l => mq_tZ l 60 fun l => mq_tI l fun v3 l => mq_t0 l (st = [] ∧ i0 = 0 ∧ 6 * (cs : Int) ≤ 360 + 16 * v3 ∧ 0 ≤ v3 ∧ v3 ≤ 384 ∧ μ' (97, 0) 0 ≤ 384 ∧ v3 + 6 ≤ μ' (97, 0) 0 ∧ sq_bx (sq_inv (μ' (69, 0)) (μ' (76, 0))) ∧ sq_bx (∀ x : Nat, μ' (23, 0) x = μ' (77, 0) x) ∧ 0 ≤ (4 * (400 - v3) + 2 : Int) ∧ (4 * (400 - v3) + 2 : Int) < (N : Int))),
  (1559, [true, true, true, true], fun (N : Nat) (l : mq_L) (st : List mq_V) (ρ' : mq_R) (μ' : mq_M) (cs : Nat) => mq_tR l 97 fun i0 l => mq_tZ l 0 fun l => mq_tZ l 60 fun l => mq_tI l fun v3 l => mq_t0 l (st = [] ∧ i0 = 0 ∧ 6 * (cs : Int) ≤ 360 + 16 * (v3 + 6) ∧ 0 ≤ v3 ∧ v3 ≤ 384 ∧ μ' (97, 0) 0 ≤ 384 ∧ v3 + 6 ≤ μ' (97, 0) 0 ∧ sq_bx (sq_inv (μ' (69, 0)) (μ' (76, 0))) ∧ sq_bx (∀ x : Nat, μ' (23, 0) x = μ' (77, 0) x) ∧ 0 ≤ (4 * (400 - v3) + 1 : Int) ∧ (4 * (400 - v3) + 1 : Int) < (N : Int))),
  (1572, [true, true, true, true], fun (N : Nat) (l : mq_L) (st : List mq_V) (ρ' : mq_R) (μ' : mq_M) (cs : Nat) => mq_tR l 97 fun i0 l => mq_tZ l 0 fun l => mq_tZ l 60 fun l => mq_tI l fun v3 l => mq_t0 l (st = [] ∧ i0 = 0 ∧ 6 * (cs : Int) ≤ 360 + 16 * v3 ∧ 0 ≤ v3 ∧ v3 ≤ 384 ∧ μ' (97, 0) 0 ≤ 384 ∧ v3 + 6 ≤ μ' (97, 0) 0 ∧ sq_bx (sq_inv (μ' (69, 0)) (μ' (76, 0))) ∧ sq_bx (∀ x : Nat, μ' (23, 0) x = μ' (77, 0) x) ∧ 0 ≤ (4 * (400 - v3) + 2 : Int) ∧ (4 * (400 - v3) + 2 : Int) < (N : Int))),
  (1587, [true, true, true, true], fun (N : Nat) (l : mq_L) (st : List mq_V) (ρ' : mq_R) (μ' : mq_M) (cs : Nat) => mq_tR l 97 fun i0 l => mq_tZ l 0 fun l => mq_tZ l 60 fun l => mq_tI l fun v3 l => mq_t0 l (st = [] ∧ i0 = 0 ∧ 6 * (cs : Int) ≤ 360 + 16 * (v3 + 6) ∧ 0 ≤ v3 ∧ v3 ≤ 384 ∧ μ' (97, 0) 0 ≤ 384 ∧ v3 + 6 ≤ μ' (97, 0) 0 ∧ sq_bx (sq_inv (μ' (69, 0)) (μ' (76, 0))) ∧ sq_bx (∀ x : Nat, μ' (23, 0) x = μ' (77, 0) x) ∧ 0 ≤ (4 * (400 - v3) + 1 : Int) ∧ (4 * (400 - v3) + 1 : Int) < (N : Int))),
  (1605, [true, true, true, true], fun (N : Nat) (l : mq_L) (st : List mq_V) (ρ' : mq_R) (μ' : mq_M) (cs : Nat) => mq_tR l 97 fun i0 l => mq_tZ l 0 fun l => mq_tZ l 60 fun l => mq_tI l fun v3 l => mq_t0 l (st = [] ∧ i0 = 0 ∧ 6 * (cs : Int) ≤ 360 + 16 * v3 ∧ 0 ≤ v3 ∧ v3 ≤ 384 ∧ μ' (97, 0) 0 ≤ 384 ∧ v3 + 6 ≤ μ' (97, 0) 0 ∧ sq_bx (sq_inv (μ' (69, 0)) (μ' (76, 0))) ∧ sq_bx (∀ x : Nat, μ' (23, 0) x = μ' (77, 0) x) ∧ 0 ≤ (4 * (400 - v3) + 2 : Int) ∧ (4 * (400 - v3) + 2 : Int) < (N : Int))),
  (1620, [true, true, true, true], fun (N : Nat) (l : mq_L) (st : List mq_V) (ρ' : mq_R) (μ' : mq_M) (cs : Nat) => mq_tR l 97 fun i0 l => mq_tZ l 0 fun l => mq_tZ l 60 fun l => mq_tI l fun v3 l => mq_t0 l (st = [] ∧ i0 = 0 ∧ 6 * (cs : Int) ≤ 360 + 16 * (v3 + 6) ∧ 0 ≤ v3 ∧ v3 ≤ 384 ∧ μ' (97, 0) 0 ≤ 384 ∧ v3 + 6 ≤ μ' (97, 0) 0 ∧ sq_bx (sq_inv (μ' (69, 0)) (μ' (76, 0))) ∧ sq_bx (∀ x : Nat, μ' (23, 0) x = μ' (77, 0) x) ∧ 0 ≤ (4 * (400 - v3) + 1 : Int) ∧ (4 * (400 - v3) + 1 : Int) < (N : Int))),
  (1638, [true, true, true, true], fun (N : Nat) (l : mq_L) (st : List mq_V) (ρ' : mq_R) (μ' : mq_M) (cs : Nat) => mq_tR l 97 fun i0 l => mq_tZ l 0 fun l => mq_tZ l 60 fun l => mq_tI l fun v3 l => mq_t0 l (st = [] ∧ i0 = 0 ∧ 6 * (cs : Int) ≤ 360 + 16 * v3 ∧ 0 ≤ v3 ∧ v3 ≤ 384 ∧ μ' (97, 0) 0 ≤ 384 ∧ v3 + 6 ≤ μ' (97, 0) 0 ∧ sq_bx (sq_inv (μ' (69, 0)) (μ' (76, 0))) ∧ sq_bx (∀ x : Nat, μ' (23, 0) x = μ' (77, 0) x) ∧ 0 ≤ (4 * (400 - v3) + 2 : Int) ∧ (4 * (400 - v3) + 2 : Int) < (N : Int))),
  (1648, [true, true, true, true], fun (N : Nat) (l : mq_L) (st : List mq_V) (ρ' : mq_R) (μ' : mq_M) (cs : Nat) => mq_tR l 97 fun i0 l => mq_tZ l 0 fun l => mq_tZ l 60 fun l => mq_tI l fun v3 l => mq_t0 l (st = [] ∧ i0 = 0 ∧ 6 * (cs : Int) ≤ 360 + 16 * (v3 + 6) ∧ 0 ≤ v3 ∧ v3 ≤ 384 ∧ μ' (97, 0) 0 ≤ 384 ∧ v3 + 6 ≤ μ' (97, 0) 0 ∧ sq_bx (sq_inv (μ' (69, 0)) (μ' (76, 0))) ∧ sq_bx (∀ x : Nat, μ' (23, 0) x = μ' (77, 0) x) ∧ 0 ≤ (4 * (400 - v3) + 1 : Int) ∧ (4 * (400 - v3) + 1 : Int) < (N : Int))),
  (1661, [true, true, true, true], fun (N : Nat) (l : mq_L) (st : List mq_V) (ρ' : mq_R) (μ' : mq_M) (cs : Nat) => mq_tR l 97 fun i0 l => mq_tZ l 0 fun l => mq_tZ l 60 fun l => mq_tI l fun v3 l => mq_t0 l (st = [] ∧ i0 = 0 ∧ 6 * (cs : Int) ≤ 360 + 16 * v3 ∧ 0 ≤ v3 ∧ v3 ≤ 384 ∧ μ' (97, 0) 0 ≤ 384 ∧ v3 + 6 ≤ μ' (97, 0) 0 ∧ sq_bx (sq_inv (μ' (69, 0)) (μ' (76, 0))) ∧ sq_bx (∀ x : Nat, μ' (23, 0) x = μ' (77, 0) x) ∧ 0 ≤ (4 * (400 - v3) + 2 : Int) ∧ (4 * (400 - v3) + 2 : Int) < (N : Int))),
  (1676, [true, true, true, true], fun (N : Nat) (l : mq_L) (st : List mq_V) (ρ' : mq_R) (μ' : mq_M) (cs : Nat) => mq_tR l 97 fun i0 l => mq_tZ l 0 fun l => mq_tZ l 60 fun l => mq_tI l fun v3 l => mq_t0 l (st = [] ∧ i0 = 0 ∧ 6 * (cs : Int) ≤ 360 + 16 * (v3 + 6) ∧ 0 ≤ v3 ∧ v3 ≤ 384 ∧ μ' (97, 0) 0 ≤ 384 ∧ v3 + 6 ≤ μ' (97, 0) 0 ∧ sq_bx (sq_inv (μ' (69, 0)) (μ' (76, 0))) ∧ sq_bx (∀ x : Nat, μ' (23, 0) x = μ' (77, 0) x) ∧ 0 ≤ (4 * (400 - v3) + 1 : Int) ∧ (4 * (400 - v3) + 1 : Int) < (N : Int))),
  (1694, [true, true, true, true], fun (N : Nat) (l : mq_L) (st : List mq_V) (ρ' : mq_R) (μ' : mq_M) (cs : Nat) => mq_tR l 97 fun i0 l => mq_tZ l 0 fun l => mq_tZ l 60 fun l => mq_tI l fun v3 l => mq_t0 l (st = [] ∧ i0 = 0 ∧ 6 * (cs : Int) ≤ 360 + 16 * v3 ∧ 0 ≤ v3 ∧ v3 ≤ 384 ∧ μ' (97, 0) 0 ≤ 384 ∧ v3 + 6 ≤ μ' (97, 0) 0 ∧ sq_bx (sq_inv (μ' (69, 0)) (μ' (76, 0))) ∧ sq_bx (∀ x : Nat, μ' (23, 0) x = μ' (77, 0) x) ∧ 0 ≤ (4 * (400 - v3) + 2 : Int) ∧ (4 * (400 - v3) + 2 : Int) < (N : Int))),
  (1704, [true, true, true, true], fun (N : Nat) (l : mq_L) (st : List mq_V) (ρ' : mq_R) (μ' : mq_M) (cs : Nat) => mq_tR l 97 fun i0 l => mq_tZ l 0 fun l => mq_tZ l 60 fun l => mq_tI l fun v3 l => mq_t0 l (st = [] ∧ i0 = 0 ∧ 6 * (cs : Int) ≤ 360 + 16 * (v3 + 6) ∧ 0 ≤ v3 ∧ v3 ≤ 384 ∧ μ' (97, 0) 0 ≤ 384 ∧ v3 + 6 ≤ μ' (97, 0) 0 ∧ sq_bx (sq_inv (μ' (69, 0)) (μ' (76, 0))) ∧ sq_bx (∀ x : Nat, μ' (23, 0) x = μ' (77, 0) x) ∧ 0 ≤ (4 * (400 - v3) + 1 : Int) ∧ (4 * (400 - v3) + 1 : Int) < (N : Int))),
  (1717, [true, true, true, true], fun (N : Nat) (l : mq_L) (st : List mq_V) (ρ' : mq_R) (μ' : mq_M) (cs : Nat) => mq_tR l 97 fun i0 l => mq_tZ l 0 fun l => mq_tZ l 60 fun l => mq_tI l fun v3 l => mq_t0 l (st = [] ∧ i0 = 0 ∧ 6 * (cs : Int) ≤ 360 + 16 * v3 ∧ 0 ≤ v3 ∧ v3 ≤ 384 ∧ μ' (97, 0) 0 ≤ 384 ∧ v3 + 6 ≤ μ' (97, 0) 0 ∧ sq_bx (sq_inv (μ' (69, 0)) (μ' (76, 0))) ∧ sq_bx (∀ x : Nat, μ' (23, 0) x = μ' (77, 0) x) ∧ 0 ≤ (4 * (400 - v3) + 2 : Int) ∧ (4 * (400 - v3) + 2 : Int) < (N : Int))),
  (1732, [true, true, true, true], fun (N : Nat) (l : mq_L) (st : List mq_V) (ρ' : mq_R) (μ' : mq_M) (cs : Nat) => mq_tR l 97 fun i0 l => mq_tZ l 0 fun l => mq_tZ l 60 fun l => mq_tI l fun v3 l => mq_t0 l (st = [] ∧ i0 = 0 ∧ 6 * (cs : Int) ≤ 360 + 16 * (v3 + 6) ∧ 0 ≤ v3 ∧ v3 ≤ 384 ∧ μ' (97, 0) 0 ≤ 384 ∧ v3 + 6 ≤ μ' (97, 0) 0 ∧ sq_bx (sq_inv (μ' (69, 0)) (μ' (76, 0))) ∧ sq_bx (∀ x : Nat, μ' (23, 0) x = μ' (77, 0) x) ∧ 0 ≤ (4 * (400 - v3) + 1 : Int) ∧ (4 * (400 - v3) + 1 : Int) < (N : Int))),
  (1750, [true, true, true, true], fun (N : Nat) (l : mq_L) (st : List mq_V) (ρ' : mq_R) (μ' : mq_M) (cs : Nat) => mq_tR l 97 fun i0 l => mq_tZ l 0 fun l => mq_tZ l 60 fun l => mq_tI l fun v3 l => mq_t0 l (st = [] ∧ i0 = 0 ∧ 6 * (cs : Int) ≤ 360 + 16 * v3 ∧ 0 ≤ v3 ∧ v3 ≤ 384 ∧ μ' (97, 0) 0 ≤ 384 ∧ v3 + 6 ≤ μ' (97, 0) 0 ∧ sq_bx (sq_inv (μ' (69, 0)) (μ' (76, 0))) ∧ sq_bx (∀ x : Nat, μ' (23, 0) x = μ' (77, 0) x) ∧ 0 ≤ (4 * (400 - v3) + 2 : Int) ∧ (4 * (400 - v3) + 2 : Int) < (N : Int))),
  (1775, [true, true, true, true], fun (N : Nat) (l : mq_L) (st : List mq_V) (ρ' : mq_R) (μ' : mq_M) (cs : Nat) => mq_tR l 97 fun i0 l => mq_tZ l 0 fun l => mq_tZ l 60 fun l => mq_tI l fun v3 l => mq_t0 l (st = [] ∧ i0 = 0 ∧ 6 * (cs : Int) ≤ 360 + 16 * (v3 + 6) ∧ 0 ≤ v3 ∧ v3 ≤ 384 ∧ μ' (97, 0) 0 ≤ 384 ∧ v3 + 6 ≤ μ' (97, 0) 0 ∧ sq_bx (sq_inv (μ' (69, 0)) (μ' (76, 0))) ∧ sq_bx (∀ x : Nat, μ' (23, 0) x = μ' (77, 0) x) ∧ 0 ≤ (4 * (400 - v3) + 1 : Int) ∧ (4 * (400 - v3) + 1 : Int) < (N : Int))),
  (1803, [true, true, true, true], fun (N : Nat) (l : mq_L) (st : List mq_V) (ρ' : mq_R) (μ' : mq_M) (cs : Nat) => mq_tR l 97 fun i0 l => mq_tZ l 0 fun l => mq_tZ l 60 fun l => mq_tI l fun v3 l => mq_t0 l (st = [] ∧ i0 = 0 ∧ 6 * (cs : Int) ≤ 360 + 16 * v3 ∧ 0 ≤ v3 ∧ v3 ≤ 384 ∧ μ' (97, 0) 0 ≤ 384 ∧ v3 + 6 ≤ μ' (97, 0) 0 ∧ sq_bx (sq_inv (μ' (69, 0)) (μ' (76, 0))) ∧ sq_bx (∀ x : Nat, μ' (23, 0) x = μ' (77, 0) x) ∧ 0 ≤ (4 * (400 - v3) + 2 : Int) ∧ (4 * (400 - v3) + 2 : Int) < (N : Int))),
  (1823, [true, true, true, true], fun (N : Nat) (l : mq_L) (st : List mq_V) (ρ' : mq_R) (μ' : mq_M) (cs : Nat) => mq_tR l 97 fun i0 l => mq_tZ l 0 fun l => mq_tZ l 60 fun l => mq_tI l fun v3 l => mq_t0 l (st = [] ∧ i0 = 0 ∧ 6 * (cs : Int) ≤ 360 + 16 * (v3 + 6) ∧ 0 ≤ v3 ∧ v3 ≤ 384 ∧ μ' (97, 0) 0 ≤ 384 ∧ v3 + 6 ≤ μ' (97, 0) 0 ∧ sq_bx (sq_inv (μ' (69, 0)) (μ' (76, 0))) ∧ sq_bx (∀ x : Nat, μ' (23, 0) x = μ' (77, 0) x) ∧ 0 ≤ (4 * (400 - v3) + 1 : Int) ∧ (4 * (400 - v3) + 1 : Int) < (N : Int))),
  (1846, [true, true, true, true], fun (N : Nat) (l : mq_L) (st : List mq_V) (ρ' : mq_R) (μ' : mq_M) (cs : Nat) => mq_tR l 97 fun i0 l => mq_tZ l 0 fun l => mq_tZ l 60 fun l => mq_tI l fun v3 l => mq_t0 l (st = [] ∧ i0 = 0 ∧ 6 * (cs : Int) ≤ 360 + 16 * v3 ∧ 0 ≤ v3 ∧ v3 ≤ 384 ∧ μ' (97, 0) 0 ≤ 384 ∧ v3 + 6 ≤ μ' (97, 0) 0 ∧ sq_bx (sq_inv (μ' (69, 0)) (μ' (76, 0))) ∧ sq_bx (∀ x : Nat, μ' (23, 0) x = μ' (77, 0) x) ∧ 0 ≤ (4 * (400 - v3) + 2 : Int) ∧ (4 * (400 - v3) + 2 : Int) < (N : Int))),
  (1856, [true, true, true, true], fun (N : Nat) (l : mq_L) (st : List mq_V) (ρ' : mq_R) (μ' : mq_M) (cs : Nat) => mq_tR l 97 fun i0 l => mq_tZ l 0 fun l => mq_tZ l 60 fun l => mq_tI l fun v3 l => mq_t0 l (st = [] ∧ i0 = 0 ∧ 6 * (cs : Int) ≤ 360 + 16 * (v3 + 6) ∧ 0 ≤ v3 ∧ v3 ≤ 384 ∧ μ' (97, 0) 0 ≤ 384 ∧ v3 + 6 ≤ μ' (97, 0) 0 ∧ sq_bx (sq_inv (μ' (69, 0)) (μ' (76, 0))) ∧ sq_bx (∀ x : Nat, μ' (23, 0) x = μ' (77, 0) x) ∧ 0 ≤ (4 * (400 - v3) + 1 : Int) ∧ (4 * (400 - v3) + 1 : Int) < (N : Int))),
  (1869, [true, true, true, true], fun (N : Nat) (l : mq_L) (st : List mq_V) (ρ' : mq_R) (μ' : mq_M) (cs : Nat) => mq_tR l 97 fun i0 l => mq_tZ l 0 fun l => mq_tZ l 60 fun l => mq_tI l fun v3 l => mq_t0 l (st = [] ∧ i0 = 0 ∧ 6 * (cs : Int) ≤ 360 + 16 * v3 ∧ 0 ≤ v3 ∧ v3 ≤ 384 ∧ μ' (97, 0) 0 ≤ 384 ∧ v3 + 6 ≤ μ' (97, 0) 0 ∧ sq_bx (sq_inv (μ' (69, 0)) (μ' (76, 0))) ∧ sq_bx (∀ x : Nat, μ' (23, 0) x = μ' (77, 0) x) ∧ 0 ≤ (4 * (400 - v3) + 2 : Int) ∧ (4 * (400 - v3) + 2 : Int) < (N : Int))),
  (1892, [true, true, true, true], fun (N : Nat) (l : mq_L) (st : List mq_V) (ρ' : mq_R) (μ' : mq_M) (cs : Nat) => mq_tR l 97 fun i0 l => mq_tZ l 0 fun l => mq_tZ l 60 fun l => mq_tI l fun v3 l => mq_t0 l (st = [] ∧ i0 = 0 ∧ 6 * (cs : Int) ≤ 360 + 16 * v3 ∧ 0 ≤ v3 ∧ v3 ≤ 384 ∧ μ' (97, 0) 0 ≤ 384 ∧ v3 + 6 ≤ μ' (97, 0) 0 ∧ sq_bx (sq_inv (μ' (69, 0)) (μ' (76, 0))) ∧ sq_bx (∀ x : Nat, μ' (23, 0) x = μ' (77, 0) x) ∧ 0 ≤ (4 * (400 - v3) + 2 : Int) ∧ (4 * (400 - v3) + 2 : Int) < (N : Int))),
  (1915, [true, true, true, true], fun (N : Nat) (l : mq_L) (st : List mq_V) (ρ' : mq_R) (μ' : mq_M) (cs : Nat) => mq_tR l 97 fun i0 l => mq_tZ l 0 fun l => mq_tZ l 60 fun l => mq_tI l fun v3 l => mq_t0 l (st = [] ∧ i0 = 0 ∧ 6 * (cs : Int) ≤ 360 + 16 * v3 ∧ 0 ≤ v3 ∧ v3 ≤ 384 ∧ μ' (97, 0) 0 ≤ 384 ∧ v3 + 6 ≤ μ' (97, 0) 0 ∧ sq_bx (sq_inv (μ' (69, 0)) (μ' (76, 0))) ∧ sq_bx (∀ x : Nat, μ' (23, 0) x = μ' (77, 0) x) ∧ 0 ≤ (4 * (400 - v3) + 2 : Int) ∧ (4 * (400 - v3) + 2 : Int) < (N : Int))),
  (1935, [true, true, true, true], fun (N : Nat) (l : mq_L) (st : List mq_V) (ρ' : mq_R) (μ' : mq_M) (cs : Nat) => mq_tR l 97 fun i0 l => mq_tZ l 0 fun l => mq_tZ l 60 fun l => mq_tI l fun v3 l => mq_t0 l (st = [] ∧ i0 = 0 ∧ 6 * (cs : Int) ≤ 360 + 16 * (v3 + 6) ∧ 0 ≤ v3 ∧ v3 ≤ 384 ∧ μ' (97, 0) 0 ≤ 384 ∧ v3 + 6 ≤ μ' (97, 0) 0 ∧ sq_bx (sq_inv (μ' (69, 0)) (μ' (76, 0))) ∧ sq_bx (∀ x : Nat, μ' (23, 0) x = μ' (77, 0) x) ∧ 0 ≤ (4 * (400 - v3) + 1 : Int) ∧ (4 * (400 - v3) + 1 : Int) < (N : Int))),
  (1958, [true, true, true, true], fun (N : Nat) (l : mq_L) (st : List mq_V) (ρ' : mq_R) (μ' : mq_M) (cs : Nat) => mq_tR l 97 fun i0 l => mq_tZ l 0 fun l => mq_tZ l 60 fun l => mq_tI l fun v3 l => mq_t0 l (st = [] ∧ i0 = 0 ∧ 6 * (cs : Int) ≤ 360 + 16 * v3 ∧ 0 ≤ v3 ∧ v3 ≤ 384 ∧ μ' (97, 0) 0 ≤ 384 ∧ v3 + 6 ≤ μ' (97, 0) 0 ∧ sq_bx (sq_inv (μ' (69, 0)) (μ' (76, 0))) ∧ sq_bx (∀ x : Nat, μ' (23, 0) x = μ' (77, 0) x) ∧ 0 ≤ (4 * (400 - v3) + 2 : Int) ∧ (4 * (400 - v3) + 2 : Int) < (N : Int))),
  (1993, [true, true, true, true], fun (N : Nat) (l : mq_L) (st : List mq_V) (ρ' : mq_R) (μ' : mq_M) (cs : Nat) => mq_tR l 97 fun i0 l => mq_tZ l 0 fun l => mq_tZ l 60 fun l => mq_tI l fun v3 l => mq_t0 l (st = [] ∧ i0 = 0 ∧ 6 * (cs : Int) ≤ 360 + 16 * (v3 + 6) ∧ 0 ≤ v3 ∧ v3 ≤ 384 ∧ μ' (97, 0) 0 ≤ 384 ∧ v3 + 6 ≤ μ' (97, 0) 0 ∧ sq_bx (sq_inv (μ' (69, 0)) (μ' (76, 0))) ∧ sq_bx (∀ x : Nat, μ' (23, 0) x = μ' (77, 0) x) ∧ 0 ≤ (4 * (400 - v3) + 1 : Int) ∧ (4 * (400 - v3) + 1 : Int) < (N : Int))),
  (2031, [true, true, true, true], fun (N : Nat) (l : mq_L) (st : List mq_V) (ρ' : mq_R) (μ' : mq_M) (cs : Nat) => mq_tR l 97 fun i0 l => mq_tZ l 0 fun l => mq_tZ l 60 fun l => mq_tI l fun v3 l => mq_t0 l (st = [] ∧ i0 = 0 ∧ 6 * (cs : Int) ≤ 360 + 16 * v3 ∧ 0 ≤ v3 ∧ v3 ≤ 384 ∧ μ' (97, 0) 0 ≤ 384 ∧ v3 + 6 ≤ μ' (97, 0) 0 ∧ sq_bx (sq_inv (μ' (69, 0)) (μ' (76, 0))) ∧ sq_bx (∀ x : Nat, μ' (23, 0) x = μ' (77, 0) x) ∧ 0 ≤ (4 * (400 - v3) + 2 : Int) ∧ (4 * (400 - v3) + 2 : Int) < (N : Int))),
  (2061, [true, true, true, true], fun (N : Nat) (l : mq_L) (st : List mq_V) (ρ' : mq_R) (μ' : mq_M) (cs : Nat) => mq_tR l 97 fun i0 l => mq_tZ l 0 fun l => mq_tZ l 60 fun l => mq_tI l fun v3 l => mq_t0 l (st = [] ∧ i0 = 0 ∧ 6 * (cs : Int) ≤ 360 + 16 * (v3 + 6) ∧ 0 ≤ v3 ∧ v3 ≤ 384 ∧ μ' (97, 0) 0 ≤ 384 ∧ v3 + 6 ≤ μ' (97, 0) 0 ∧ sq_bx (sq_inv (μ' (69, 0)) (μ' (76, 0))) ∧ sq_bx (∀ x : Nat, μ' (23, 0) x = μ' (77, 0) x) ∧ 0 ≤ (4 * (400 - v3) + 1 : Int) ∧ (4 * (400 - v3) + 1 : Int) < (N : Int))),
  (2094, [true, true, true, true], fun (N : Nat) (l : mq_L) (st : List mq_V) (ρ' : mq_R) (μ' : mq_M) (cs : Nat) => mq_tR l 97 fun i0 l => mq_tZ l 0 fun l => mq_tZ l 60 fun l => mq_tI l fun v3 l => mq_t0 l (st = [] ∧ i0 = 0 ∧ 6 * (cs : Int) ≤ 360 + 16 * (v3 + 6) ∧ 0 ≤ v3 ∧ v3 ≤ 384 ∧ μ' (97, 0) 0 ≤ 384 ∧ v3 + 6 ≤ μ' (97, 0) 0 ∧ sq_bx (sq_inv (μ' (69, 0)) (μ' (76, 0))) ∧ sq_bx (∀ x : Nat, μ' (23, 0) x = μ' (77, 0) x) ∧ 0 ≤ (4 * (400 - v3) : Int) ∧ (4 * (400 - v3) : Int) < (N : Int)))]
set_option maxRecDepth 100000 in
def tq_law : mq_T := ([], [], [(203, 4294967295)], [(13, 0, 0), (17, 1, 0), (18, 2, 0), (22, 3, 0), (23, 4, 0), (27, 5, 0), (28, 6, 0), (31, 7, 0), (32, 8, 0), (36, 9, 0), (37, 10, 0), (40, 11, 0), (41, 12, 0), (44, 13, 0), (45, 14, 0), (48, 15, 0), (49, 16, 0), (52, 17, 0), (53, 18, 0), (56, 19, 0), (57, 20, 0), (60, 21, 0), (61, 22, 0), (65, 23, 0), (66, 24, 0), (69, 25, 0), (70, 26, 0), (73, 27, 0), (74, 28, 0), (77, 29, 0), (78, 30, 0), (81, 31, 0), (82, 32, 0), (85, 33, 0), (86, 34, 0), (89, 35, 0), (90, 36, 0), (93, 37, 0), (94, 38, 0), (98, 39, 0), (99, 40, 0), (102, 41, 0), (103, 42, 0), (106, 43, 0), (107, 44, 0), (110, 45, 0), (111, 46, 0), (114, 47, 0), (115, 48, 0), (118, 49, 0), (119, 50, 0), (122, 51, 0), (123, 52, 0), (126, 53, 0), (127, 54, 0), (130, 55, 0), (131, 56, 0), (134, 57, 0), (135, 58, 0), (138, 59, 0), (139, 60, 0), (142, 61, 0), (143, 62, 0), (146, 63, 0), (147, 64, 0), (150, 65, 0), (151, 66, 0), (154, 67, 0), (155, 68, 0), (158, 69, 0), (159, 70, 0), (162, 71, 0), (163, 72, 0), (166, 73, 0), (167, 74, 0), (170, 75, 0), (171, 76, 0), (174, 77, 0), (175, 78, 0), (178, 79, 0), (179, 80, 0), (182, 81, 0), (183, 82, 0), (186, 83, 0), (187, 84, 0), (190, 85, 0), (191, 86, 0), (194, 87, 0), (195, 88, 0), (198, 89, 0), (199, 90, 0), (202, 91, 0), (205, 92, 0), (209, 93, 0), (210, 94, 0), (213, 95, 0)], [], [])
set_option maxRecDepth 100000 in
def lq_cl : List mq_C := [cq_feed, cq_m_feed, cq_end, cq_m_end, cq_line, cq_m_line, cq_fault, cq_m_fault, cq_yard, cq_m_yard_, cq_coach, cq_m_coach, cq_rain, cq_m_rain, cq_post, cq_m_post, cq_shift, cq_m_shift, cq_swap, cq_m_swap, cq_tick, cq_m_tick, cq_can, cq_m_can, cq_step, cq_m_step, cq_handled, cq_m_handled, cq_hard, cq_m_hard, cq_quick, cq_m_quick, cq_jolt, cq_m_jolt, cq_stands, cq_m_stands, cq_posts, cq_m_posts, cq_speeds, cq_m_speeds, cq_wetter, cq_m_wetter, cq_room, cq_m_room, cq_told, cq_m_told, cq_judge, cq_m_judge, cq_pulls, cq_m_pulls, cq_passes, cq_m_passes, cq_lets, cq_m_lets, cq_comes, cq_m_comes, cq_clear, cq_m_clear, cq_good, cq_m_good, cq_breach, cq_m_breach, cq_mistake, cq_m_mistake, cq_weak, cq_m_weak, cq_start, cq_m_start, cq_shunts, cq_m_shunts, cq_order, cq_m_order, cq_blocked, cq_m_blocked, cq_saved, cq_m_saved, cq_best, cq_m_best, cq_margin, cq_m_margin, cq_days, cq_m_days, cq_day, cq_m_day, cq_count, cq_m_count, cq_keep, cq_m_keep, cq_back, cq_m_back, cq_row, cq_m_row, cq_write, cq_m_write, cq_paste, cq_m_paste]
set_option maxRecDepth 100000 in
theorem tq_law_ok : mq_Tok RL lq_cl tq_law := ⟨(fun _ h => absurd h List.not_mem_nil), (fun _ h => absurd h List.not_mem_nil), (List.forall_mem_cons.mpr ⟨kw_1177, (fun _ h => absurd h List.not_mem_nil)⟩), (List.forall_mem_cons.mpr ⟨mq_ml0 rfl mw0_feed kw_1181, (List.forall_mem_cons.mpr ⟨mq_ml0 rfl mw0_m_feed kw_1185, (List.forall_mem_cons.mpr ⟨mq_ml0 rfl mw0_end kw_1189, (List.forall_mem_cons.mpr ⟨mq_ml0 rfl mw0_m_end kw_1193, (List.forall_mem_cons.mpr ⟨mq_ml0 rfl mw0_line kw_1197, (List.forall_mem_cons.mpr ⟨mq_ml0 rfl mw0_m_line kw_1201, (List.forall_mem_cons.mpr ⟨mq_ml0 rfl mw0_fault kw_1205, (List.forall_mem_cons.mpr ⟨mq_ml0 rfl mw0_m_fault kw_1209, (List.forall_mem_cons.mpr ⟨mq_ml0 rfl mw0_yard kw_1213, (List.forall_mem_cons.mpr ⟨mq_ml0 rfl mw0_m_yard_ kw_1217, (List.forall_mem_cons.mpr ⟨mq_ml0 rfl mw0_coach kw_1221, (List.forall_mem_cons.mpr ⟨mq_ml0 rfl mw0_m_coach kw_1225, (List.forall_mem_cons.mpr ⟨mq_ml0 rfl mw0_rain kw_1229, (List.forall_mem_cons.mpr ⟨mq_ml0 rfl mw0_m_rain kw_1233, (List.forall_mem_cons.mpr ⟨mq_ml0 rfl mw0_post kw_1237, (List.forall_mem_cons.mpr ⟨mq_ml0 rfl mw0_m_post kw_1241, (List.forall_mem_cons.mpr ⟨mq_ml0 rfl mw0_shift kw_1245, (List.forall_mem_cons.mpr ⟨mq_ml0 rfl mw0_m_shift kw_1249, (List.forall_mem_cons.mpr ⟨mq_ml0 rfl mw0_swap kw_1253, (List.forall_mem_cons.mpr ⟨mq_ml0 rfl mw0_m_swap kw_1257, (List.forall_mem_cons.mpr ⟨mq_ml0 rfl mw0_tick kw_1261, (List.forall_mem_cons.mpr ⟨mq_ml0 rfl mw0_m_tick kw_1265, (List.forall_mem_cons.mpr ⟨mq_ml0 rfl mw0_can kw_1269, (List.forall_mem_cons.mpr ⟨mq_ml0 rfl mw0_m_can kw_1273, (List.forall_mem_cons.mpr ⟨mq_ml0 rfl mw0_step kw_1277, (List.forall_mem_cons.mpr ⟨mq_ml0 rfl mw0_m_step kw_1281, (List.forall_mem_cons.mpr ⟨mq_ml0 rfl mw0_handled kw_1285, (List.forall_mem_cons.mpr ⟨mq_ml0 rfl mw0_m_handled kw_1289, (List.forall_mem_cons.mpr ⟨mq_ml0 rfl mw0_hard kw_1293, (List.forall_mem_cons.mpr ⟨mq_ml0 rfl mw0_m_hard kw_1297, (List.forall_mem_cons.mpr ⟨mq_ml0 rfl mw0_quick kw_1301, (List.forall_mem_cons.mpr ⟨mq_ml0 rfl mw0_m_quick kw_1305, (List.forall_mem_cons.mpr ⟨mq_ml0 rfl mw0_jolt kw_1309, (List.forall_mem_cons.mpr ⟨mq_ml0 rfl mw0_m_jolt kw_1313, (List.forall_mem_cons.mpr ⟨mq_ml0 rfl mw0_stands kw_1317, (List.forall_mem_cons.mpr ⟨mq_ml0 rfl mw0_m_stands kw_1321, (List.forall_mem_cons.mpr ⟨mq_ml0 rfl mw0_posts kw_1325, (List.forall_mem_cons.mpr ⟨mq_ml0 rfl mw0_m_posts kw_1329, (List.forall_mem_cons.mpr ⟨mq_ml0 rfl mw0_speeds kw_1333, (List.forall_mem_cons.mpr ⟨mq_ml0 rfl mw0_m_speeds kw_1337, (List.forall_mem_cons.mpr ⟨mq_ml0 rfl mw0_wetter kw_1341, (List.forall_mem_cons.mpr ⟨mq_ml0 rfl mw0_m_wetter kw_1345, (List.forall_mem_cons.mpr ⟨mq_ml0 rfl mw0_room kw_1349, (List.forall_mem_cons.mpr ⟨mq_ml0 rfl mw0_m_room kw_1353, (List.forall_mem_cons.mpr ⟨mq_ml0 rfl mw0_told kw_1357, (List.forall_mem_cons.mpr ⟨mq_ml0 rfl mw0_m_told kw_1361, (List.forall_mem_cons.mpr ⟨mq_ml0 rfl mw0_judge kw_1365, (List.forall_mem_cons.mpr ⟨mq_ml0 rfl mw0_m_judge kw_1369, (List.forall_mem_cons.mpr ⟨mq_ml0 rfl mw0_pulls kw_1373, (List.forall_mem_cons.mpr ⟨mq_ml0 rfl mw0_m_pulls kw_1377, (List.forall_mem_cons.mpr ⟨mq_ml0 rfl mw0_passes kw_1381, (List.forall_mem_cons.mpr ⟨mq_ml0 rfl mw0_m_passes kw_1385, (List.forall_mem_cons.mpr ⟨mq_ml0 rfl mw0_lets kw_1389, (List.forall_mem_cons.mpr ⟨mq_ml0 rfl mw0_m_lets kw_1393, (List.forall_mem_cons.mpr ⟨mq_ml0 rfl mw0_comes kw_1397, (List.forall_mem_cons.mpr ⟨mq_ml0 rfl mw0_m_comes kw_1401, (List.forall_mem_cons.mpr ⟨mq_ml0 rfl mw0_clear kw_1405, (List.forall_mem_cons.mpr ⟨mq_ml0 rfl mw0_m_clear kw_1409, (List.forall_mem_cons.mpr ⟨mq_ml0 rfl mw0_good kw_1413, (List.forall_mem_cons.mpr ⟨mq_ml0 rfl mw0_m_good kw_1417, (List.forall_mem_cons.mpr ⟨mq_ml0 rfl mw0_breach kw_1421, (List.forall_mem_cons.mpr ⟨mq_ml0 rfl mw0_m_breach kw_1425, (List.forall_mem_cons.mpr ⟨mq_ml0 rfl mw0_mistake kw_1429, (List.forall_mem_cons.mpr ⟨mq_ml0 rfl mw0_m_mistake kw_1433, (List.forall_mem_cons.mpr ⟨mq_ml0 rfl mw0_weak kw_1437, (List.forall_mem_cons.mpr ⟨mq_ml0 rfl mw0_m_weak kw_1441, (List.forall_mem_cons.mpr ⟨mq_ml0 rfl mw0_start kw_1445, (List.forall_mem_cons.mpr ⟨mq_ml0 rfl mw0_m_start kw_1449, (List.forall_mem_cons.mpr ⟨mq_ml0 rfl mw0_shunts kw_1453, (List.forall_mem_cons.mpr ⟨mq_ml0 rfl mw0_m_shunts kw_1457, (List.forall_mem_cons.mpr ⟨mq_ml0 rfl mw0_order kw_1461, (List.forall_mem_cons.mpr ⟨mq_ml0 rfl mw0_m_order kw_1465, (List.forall_mem_cons.mpr ⟨mq_ml0 rfl mw0_blocked kw_1469, (List.forall_mem_cons.mpr ⟨mq_ml0 rfl mw0_m_blocked kw_1473, (List.forall_mem_cons.mpr ⟨mq_ml0 rfl mw0_saved kw_1477, (List.forall_mem_cons.mpr ⟨mq_ml0 rfl mw0_m_saved kw_1481, (List.forall_mem_cons.mpr ⟨mq_ml0 rfl mw0_best kw_1485, (List.forall_mem_cons.mpr ⟨mq_ml0 rfl mw0_m_best kw_1489, (List.forall_mem_cons.mpr ⟨mq_ml0 rfl mw0_margin kw_1493, (List.forall_mem_cons.mpr ⟨mq_ml0 rfl mw0_m_margin kw_1497, (List.forall_mem_cons.mpr ⟨mq_ml0 rfl mw0_days kw_1501, (List.forall_mem_cons.mpr ⟨mq_ml0 rfl mw0_m_days kw_1505, (List.forall_mem_cons.mpr ⟨mq_ml0 rfl mw0_day kw_1509, (List.forall_mem_cons.mpr ⟨mq_ml0 rfl mw0_m_day kw_1513, (List.forall_mem_cons.mpr ⟨mq_ml0 rfl mw0_count kw_1517, (List.forall_mem_cons.mpr ⟨mq_ml0 rfl mw0_m_count kw_1521, (List.forall_mem_cons.mpr ⟨mq_ml0 rfl mw0_keep kw_1525, (List.forall_mem_cons.mpr ⟨mq_ml0 rfl mw0_m_keep kw_1529, (List.forall_mem_cons.mpr ⟨mq_ml0 rfl mw0_back kw_1533, (List.forall_mem_cons.mpr ⟨mq_ml0 rfl mw0_m_back kw_1537, (List.forall_mem_cons.mpr ⟨mq_ml0 rfl mw0_row kw_1541, (List.forall_mem_cons.mpr ⟨mq_ml0 rfl mw0_m_row kw_1545, (List.forall_mem_cons.mpr ⟨mq_ml0 rfl mw0_write kw_1549, (List.forall_mem_cons.mpr ⟨mq_ml0 rfl mw0_m_write kw_1553, (List.forall_mem_cons.mpr ⟨mq_ml0 rfl mw0_paste kw_1557, (List.forall_mem_cons.mpr ⟨mq_ml0 rfl mw0_m_paste kw_1561, (fun _ h => absurd h List.not_mem_nil)⟩)⟩)⟩)⟩)⟩)⟩)⟩)⟩)⟩)⟩)⟩)⟩)⟩)⟩)⟩)⟩)⟩)⟩)⟩)⟩)⟩)⟩)⟩)⟩)⟩)⟩)⟩)⟩)⟩)⟩)⟩)⟩)⟩)⟩)⟩)⟩)⟩)⟩)⟩)⟩)⟩)⟩)⟩)⟩)⟩)⟩)⟩)⟩)⟩)⟩)⟩)⟩)⟩)⟩)⟩)⟩)⟩)⟩)⟩)⟩)⟩)⟩)⟩)⟩)⟩)⟩)⟩)⟩)⟩)⟩)⟩)⟩)⟩)⟩)⟩)⟩)⟩)⟩)⟩)⟩)⟩)⟩)⟩)⟩)⟩)⟩)⟩)⟩)⟩)⟩)⟩)⟩)⟩)⟩)⟩)⟩), (fun _ h => absurd h List.not_mem_nil), (fun _ h => absurd h List.not_mem_nil)⟩
def lq_md : Nat := 19807040627989623643916206079
set_option maxRecDepth 100000 in
theorem lk_0 : mq_ckN RL code lq_cl lq_md 13 480 1 tq_law 244 pq_l0 = true := by decide +kernel
set_option maxRecDepth 100000 in
theorem lk_1 : mq_ckN RL code lq_cl lq_md 13 480 1 tq_law 260 pq_l1 = true := by decide +kernel
set_option maxRecDepth 100000 in
theorem lk_2 : mq_ckN RL code lq_cl lq_md 13 480 1 tq_law 278 pq_l2 = true := by decide +kernel
set_option maxRecDepth 100000 in
theorem lk_3 : mq_ckN RL code lq_cl lq_md 13 480 1 tq_law 294 pq_l3 = true := by decide +kernel
set_option maxRecDepth 100000 in
theorem lk_4 : mq_ckN RL code lq_cl lq_md 13 480 1 tq_law 316 pq_l4 = true := by decide +kernel
set_option maxRecDepth 100000 in
theorem lk_5 : mq_ckN RL code lq_cl lq_md 13 480 1 tq_law 342 pq_l5 = true := by decide +kernel
set_option maxRecDepth 100000 in
theorem lk_6 : mq_ckN RL code lq_cl lq_md 13 480 1 tq_law 364 pq_l6 = true := by decide +kernel
set_option maxRecDepth 100000 in
theorem lk_7 : mq_ckN RL code lq_cl lq_md 13 480 1 tq_law 382 pq_l7 = true := by decide +kernel
set_option maxRecDepth 100000 in
theorem lk_8 : mq_ckN RL code lq_cl lq_md 13 480 1 tq_law 402 pq_l8 = true := by decide +kernel
set_option maxRecDepth 100000 in
theorem lk_9 : mq_ckN RL code lq_cl lq_md 13 480 1 tq_law 420 pq_l9 = true := by decide +kernel
set_option maxRecDepth 100000 in
theorem lk_10 : mq_ckN RL code lq_cl lq_md 13 480 1 tq_law 442 pq_l10 = true := by decide +kernel
set_option maxRecDepth 100000 in
theorem lk_11 : mq_ckN RL code lq_cl lq_md 13 480 1 tq_law 462 pq_l11 = true := by decide +kernel
set_option maxRecDepth 100000 in
theorem lk_12 : mq_ckN RL code lq_cl lq_md 13 480 1 tq_law 484 pq_l12 = true := by decide +kernel
set_option maxRecDepth 100000 in
theorem lk_13 : mq_ckN RL code lq_cl lq_md 13 480 1 tq_law 502 pq_l13 = true := by decide +kernel
set_option maxRecDepth 100000 in
theorem lk_14 : mq_ckN RL code lq_cl lq_md 13 480 1 tq_law 522 pq_l14 = true := by decide +kernel
set_option maxRecDepth 100000 in
theorem lk_15 : mq_ckN RL code lq_cl lq_md 13 480 1 tq_law 540 pq_l15 = true := by decide +kernel
set_option maxRecDepth 100000 in
theorem lk_16 : mq_ckN RL code lq_cl lq_md 13 480 1 tq_law 560 pq_l16 = true := by decide +kernel
set_option maxRecDepth 100000 in
theorem lk_17 : mq_ckN RL code lq_cl lq_md 13 480 1 tq_law 576 pq_l17 = true := by decide +kernel
set_option maxRecDepth 100000 in
theorem lk_18 : mq_ckN RL code lq_cl lq_md 13 480 1 tq_law 594 pq_l18 = true := by decide +kernel
set_option maxRecDepth 100000 in
theorem lk_19 : mq_ckN RL code lq_cl lq_md 13 480 1 tq_law 614 pq_l19 = true := by decide +kernel
set_option maxRecDepth 100000 in
theorem lk_20 : mq_ckN RL code lq_cl lq_md 13 480 1 tq_law 630 pq_l20 = true := by decide +kernel
set_option maxRecDepth 100000 in
theorem lk_21 : mq_ckN RL code lq_cl lq_md 13 480 1 tq_law 648 pq_l21 = true := by decide +kernel
set_option maxRecDepth 100000 in
theorem lk_22 : mq_ckN RL code lq_cl lq_md 13 480 1 tq_law 668 pq_l22 = true := by decide +kernel
set_option maxRecDepth 100000 in
theorem lk_23 : mq_ckN RL code lq_cl lq_md 13 480 1 tq_law 684 pq_l23 = true := by decide +kernel
set_option maxRecDepth 100000 in
theorem lk_24 : mq_ckN RL code lq_cl lq_md 13 480 1 tq_law 702 pq_l24 = true := by decide +kernel
set_option maxRecDepth 100000 in
theorem lk_25 : mq_ckN RL code lq_cl lq_md 13 480 1 tq_law 722 pq_l25 = true := by decide +kernel
set_option maxRecDepth 100000 in
theorem lk_26 : mq_ckN RL code lq_cl lq_md 13 480 1 tq_law 738 pq_l26 = true := by decide +kernel
set_option maxRecDepth 100000 in
theorem lk_27 : mq_ckN RL code lq_cl lq_md 13 480 1 tq_law 756 pq_l27 = true := by decide +kernel
set_option maxRecDepth 100000 in
theorem lk_28 : mq_ckN RL code lq_cl lq_md 13 480 1 tq_law 772 pq_l28 = true := by decide +kernel
set_option maxRecDepth 100000 in
theorem lk_29 : mq_ckN RL code lq_cl lq_md 13 480 1 tq_law 792 pq_l29 = true := by decide +kernel
set_option maxRecDepth 100000 in
theorem lk_30 : mq_ckN RL code lq_cl lq_md 13 480 1 tq_law 810 pq_l30 = true := by decide +kernel
set_option maxRecDepth 100000 in
theorem lk_31 : mq_ckN RL code lq_cl lq_md 13 480 1 tq_law 826 pq_l31 = true := by decide +kernel
set_option maxRecDepth 100000 in
theorem lk_32 : mq_ckN RL code lq_cl lq_md 13 480 1 tq_law 846 pq_l32 = true := by decide +kernel
set_option maxRecDepth 100000 in
theorem lk_33 : mq_ckN RL code lq_cl lq_md 13 480 1 tq_law 864 pq_l33 = true := by decide +kernel
set_option maxRecDepth 100000 in
theorem lk_34 : mq_ckN RL code lq_cl lq_md 13 480 1 tq_law 880 pq_l34 = true := by decide +kernel
set_option maxRecDepth 100000 in
theorem lk_35 : mq_ckN RL code lq_cl lq_md 13 480 1 tq_law 900 pq_l35 = true := by decide +kernel
set_option maxRecDepth 100000 in
theorem lk_36 : mq_ckN RL code lq_cl lq_md 13 480 1 tq_law 918 pq_l36 = true := by decide +kernel
set_option maxRecDepth 100000 in
theorem lk_37 : mq_ckN RL code lq_cl lq_md 13 480 1 tq_law 934 pq_l37 = true := by decide +kernel
set_option maxRecDepth 100000 in
theorem lk_38 : mq_ckN RL code lq_cl lq_md 13 480 1 tq_law 954 pq_l38 = true := by decide +kernel
set_option maxRecDepth 100000 in
theorem lk_39 : mq_ckN RL code lq_cl lq_md 13 480 1 tq_law 972 pq_l39 = true := by decide +kernel
set_option maxRecDepth 100000 in
theorem lk_40 : mq_ckN RL code lq_cl lq_md 13 480 1 tq_law 990 pq_l40 = true := by decide +kernel
set_option maxRecDepth 100000 in
theorem lk_41 : mq_ckN RL code lq_cl lq_md 13 480 1 tq_law 1008 pq_l41 = true := by decide +kernel
set_option maxRecDepth 100000 in
theorem lk_42 : mq_ckN RL code lq_cl lq_md 13 480 1 tq_law 1026 pq_l42 = true := by decide +kernel
set_option maxRecDepth 100000 in
theorem lk_43 : mq_ckN RL code lq_cl lq_md 13 480 1 tq_law 1044 pq_l43 = true := by decide +kernel
set_option maxRecDepth 100000 in
theorem lk_44 : mq_ckN RL code lq_cl lq_md 13 480 1 tq_law 1062 pq_l44 = true := by decide +kernel
set_option maxRecDepth 100000 in
theorem lk_45 : mq_ckN RL code lq_cl lq_md 13 480 1 tq_law 1080 pq_l45 = true := by decide +kernel
set_option maxRecDepth 100000 in
theorem lk_46 : mq_ckN RL code lq_cl lq_md 13 480 1 tq_law 1100 pq_l46 = true := by decide +kernel
set_option maxRecDepth 100000 in
theorem lk_47 : mq_ckN RL code lq_cl lq_md 13 480 1 tq_law 1118 pq_l47 = true := by decide +kernel
set_option maxRecDepth 100000 in
theorem lk_48 : mq_ckN RL code lq_cl lq_md 13 480 1 tq_law 1134 pq_l48 = true := by decide +kernel
set_option maxRecDepth 100000 in
theorem lk_49 : mq_ckN RL code lq_cl lq_md 13 480 1 tq_law 1154 pq_l49 = true := by decide +kernel
set_option maxRecDepth 100000 in
theorem lk_50 : mq_ckN RL code lq_cl lq_md 13 480 1 tq_law 1176 pq_l50 = true := by decide +kernel
set_option maxRecDepth 100000 in
theorem lk_51 : mq_ckN RL code lq_cl lq_md 13 480 1 tq_law 1192 pq_l51 = true := by decide +kernel
set_option maxRecDepth 100000 in
theorem lk_52 : mq_ckN RL code lq_cl lq_md 13 480 1 tq_law 1210 pq_l52 = true := by decide +kernel
set_option maxRecDepth 100000 in
theorem lk_53 : mq_ckN RL code lq_cl lq_md 13 480 1 tq_law 1230 pq_l53 = true := by decide +kernel
set_option maxRecDepth 100000 in
theorem lk_54 : mq_ckN RL code lq_cl lq_md 13 480 1 tq_law 1246 pq_l54 = true := by decide +kernel
set_option maxRecDepth 100000 in
theorem lk_55 : mq_ckN RL code lq_cl lq_md 13 480 1 tq_law 1264 pq_l55 = true := by decide +kernel
set_option maxRecDepth 100000 in
theorem lk_56 : mq_ckN RL code lq_cl lq_md 13 480 1 tq_law 1280 pq_l56 = true := by decide +kernel
set_option maxRecDepth 100000 in
theorem lk_57 : mq_ckN RL code lq_cl lq_md 13 480 1 tq_law 1300 pq_l57 = true := by decide +kernel
set_option maxRecDepth 100000 in
theorem lk_58 : mq_ckN RL code lq_cl lq_md 13 480 1 tq_law 1318 pq_l58 = true := by decide +kernel
set_option maxRecDepth 100000 in
theorem lk_59 : mq_ckN RL code lq_cl lq_md 13 480 1 tq_law 1338 pq_l59 = true := by decide +kernel
set_option maxRecDepth 100000 in
theorem lk_60 : mq_ckN RL code lq_cl lq_md 13 480 1 tq_law 1356 pq_l60 = true := by decide +kernel
set_option maxRecDepth 100000 in
theorem lk_61 : mq_ckN RL code lq_cl lq_md 13 480 1 tq_law 1376 pq_l61 = true := by decide +kernel
set_option maxRecDepth 100000 in
theorem lk_62 : mq_ckN RL code lq_cl lq_md 13 480 1 tq_law 1394 pq_l62 = true := by decide +kernel
set_option maxRecDepth 100000 in
theorem lk_63 : mq_ckN RL code lq_cl lq_md 13 480 1 tq_law 1416 pq_l63 = true := by decide +kernel
set_option maxRecDepth 100000 in
theorem lk_64 : mq_ckN RL code lq_cl lq_md 13 480 1 tq_law 1436 pq_l64 = true := by decide +kernel
set_option maxRecDepth 100000 in
theorem lk_65 : mq_ckN RL code lq_cl lq_md 13 480 1 tq_law 1458 pq_l65 = true := by decide +kernel
set_option maxRecDepth 100000 in
theorem lk_66 : mq_ckN RL code lq_cl lq_md 13 480 1 tq_law 1482 pq_l66 = true := by decide +kernel
set_option maxRecDepth 100000 in
theorem lk_67 : mq_ckN RL code lq_cl lq_md 13 480 1 tq_law 1502 pq_l67 = true := by decide +kernel
set_option maxRecDepth 100000 in
theorem lk_68 : mq_ckN RL code lq_cl lq_md 13 480 1 tq_law 1522 pq_l68 = true := by decide +kernel
set_option maxRecDepth 100000 in
theorem lk_69 : mq_ckN RL code lq_cl lq_md 13 480 1 tq_law 1542 pq_l69 = true := by decide +kernel
set_option maxRecDepth 100000 in
theorem lk_70 : mq_ckN RL code lq_cl lq_md 13 480 1 tq_law 1564 pq_l70 = true := by decide +kernel
set_option maxRecDepth 100000 in
theorem lk_71 : mq_ckN RL code lq_cl lq_md 13 480 1 tq_law 1586 pq_l71 = true := by decide +kernel
set_option maxRecDepth 100000 in
theorem lk_72 : mq_ckN RL code lq_cl lq_md 13 480 1 tq_law 1606 pq_l72 = true := by decide +kernel
set_option maxRecDepth 100000 in
theorem lk_73 : mq_ckN RL code lq_cl lq_md 13 480 1 tq_law 1624 pq_l73 = true := by decide +kernel
set_option maxRecDepth 100000 in
theorem lk_74 : mq_ckN RL code lq_cl lq_md 13 480 1 tq_law 1644 pq_l74 = true := by decide +kernel
set_option maxRecDepth 100000 in
theorem lk_75 : mq_ckN RL code lq_cl lq_md 13 480 1 tq_law 1666 pq_l75 = true := by decide +kernel
set_option maxRecDepth 100000 in
theorem lk_76 : mq_ckN RL code lq_cl lq_md 13 480 1 tq_law 1684 pq_l76 = true := by decide +kernel
set_option maxRecDepth 100000 in
theorem lk_77 : mq_ckN RL code lq_cl lq_md 13 480 1 tq_law 1706 pq_l77 = true := by decide +kernel
set_option maxRecDepth 100000 in
theorem lk_78 : mq_ckN RL code lq_cl lq_md 13 480 1 tq_law 1726 pq_l78 = true := by decide +kernel
set_option maxRecDepth 100000 in
theorem lk_79 : mq_ckN RL code lq_cl lq_md 13 480 1 tq_law 1746 pq_l79 = true := by decide +kernel
set_option maxRecDepth 100000 in
theorem lk_80 : mq_ckN RL code lq_cl lq_md 13 480 1 tq_law 1764 pq_l80 = true := by decide +kernel
set_option maxRecDepth 100000 in
theorem lk_81 : mq_ckN RL code lq_cl lq_md 13 480 1 tq_law 1782 pq_l81 = true := by decide +kernel
set_option maxRecDepth 100000 in
theorem lk_82 : mq_ckN RL code lq_cl lq_md 13 480 1 tq_law 1800 pq_l82 = true := by decide +kernel
set_option maxRecDepth 100000 in
theorem lk_83 : mq_ckN RL code lq_cl lq_md 13 480 1 tq_law 1818 pq_l83 = true := by decide +kernel
set_option maxRecDepth 100000 in
theorem lk_84 : mq_ckN RL code lq_cl lq_md 13 480 1 tq_law 1836 pq_l84 = true := by decide +kernel
set_option maxRecDepth 100000 in
theorem lk_85 : mq_ckN RL code lq_cl lq_md 13 480 1 tq_law 1858 pq_l85 = true := by decide +kernel
set_option maxRecDepth 100000 in
theorem lk_86 : mq_ckN RL code lq_cl lq_md 13 480 1 tq_law 1880 pq_l86 = true := by decide +kernel
set_option maxRecDepth 100000 in
theorem lk_87 : mq_ckN RL code lq_cl lq_md 13 480 1 tq_law 1902 pq_l87 = true := by decide +kernel
set_option maxRecDepth 100000 in
theorem lk_88 : mq_ckN RL code lq_cl lq_md 13 480 1 tq_law 1922 pq_l88 = true := by decide +kernel
set_option maxRecDepth 100000 in
theorem lk_89 : mq_ckN RL code lq_cl lq_md 13 480 1 tq_law 1940 pq_l89 = true := by decide +kernel
set_option maxRecDepth 100000 in
theorem lk_90 : mq_ckN RL code lq_cl lq_md 13 480 1 tq_law 1960 pq_l90 = true := by decide +kernel
set_option maxRecDepth 100000 in
theorem lk_91 : mq_ckN RL code lq_cl lq_md 13 480 1 tq_law 1977 pq_l91 = true := by decide +kernel
set_option maxRecDepth 100000 in
theorem lk_92 : mq_ckN RL code lq_cl lq_md 13 480 1 tq_law 1997 pq_l92 = true := by decide +kernel
set_option maxRecDepth 100000 in
theorem lk_93 : mq_ckN RL code lq_cl lq_md 13 480 1 tq_law 2014 pq_l93 = true := by decide +kernel
set_option maxRecDepth 100000 in
theorem lk_94 : mq_ckN RL code lq_cl lq_md 13 480 1 tq_law 2036 pq_l94 = true := by decide +kernel
set_option maxRecDepth 100000 in
theorem lk_95 : mq_ckN RL code lq_cl lq_md 13 480 1 tq_law 2052 pq_l95 = true := by decide +kernel
set_option maxRecDepth 100000 in
theorem lk_96 : mq_ckN RL code lq_cl lq_md 13 480 1 tq_law 2070 pq_l96 = true := by decide +kernel
set_option maxRecDepth 100000 in
theorem lk_97 : mq_ckN RL code lq_cl lq_md 13 480 1 tq_law 2086 pq_l97 = true := by decide +kernel
set_option maxRecDepth 100000 in
theorem lk_98 : mq_ckN RL code lq_cl lq_md 13 480 1 tq_law 0 pq_l98 = true := by decide +kernel
set_option maxRecDepth 100000 in
theorem lq_ck : mq_ckL RL code lq_cl lq_md 13 480 1 tq_law pq_law = true := mq_ckL_app _ _ lk_0 rfl (mq_ckL_app _ _ lk_1 rfl (mq_ckL_app _ _ lk_2 rfl (mq_ckL_app _ _ lk_3 rfl (mq_ckL_app _ _ lk_4 rfl (mq_ckL_app _ _ lk_5 rfl (mq_ckL_app _ _ lk_6 rfl (mq_ckL_app _ _ lk_7 rfl (mq_ckL_app _ _ lk_8 rfl (mq_ckL_app _ _ lk_9 rfl (mq_ckL_app _ _ lk_10 rfl (mq_ckL_app _ _ lk_11 rfl (mq_ckL_app _ _ lk_12 rfl (mq_ckL_app _ _ lk_13 rfl (mq_ckL_app _ _ lk_14 rfl (mq_ckL_app _ _ lk_15 rfl (mq_ckL_app _ _ lk_16 rfl (mq_ckL_app _ _ lk_17 rfl (mq_ckL_app _ _ lk_18 rfl (mq_ckL_app _ _ lk_19 rfl (mq_ckL_app _ _ lk_20 rfl (mq_ckL_app _ _ lk_21 rfl (mq_ckL_app _ _ lk_22 rfl (mq_ckL_app _ _ lk_23 rfl (mq_ckL_app _ _ lk_24 rfl (mq_ckL_app _ _ lk_25 rfl (mq_ckL_app _ _ lk_26 rfl (mq_ckL_app _ _ lk_27 rfl (mq_ckL_app _ _ lk_28 rfl (mq_ckL_app _ _ lk_29 rfl (mq_ckL_app _ _ lk_30 rfl (mq_ckL_app _ _ lk_31 rfl (mq_ckL_app _ _ lk_32 rfl (mq_ckL_app _ _ lk_33 rfl (mq_ckL_app _ _ lk_34 rfl (mq_ckL_app _ _ lk_35 rfl (mq_ckL_app _ _ lk_36 rfl (mq_ckL_app _ _ lk_37 rfl (mq_ckL_app _ _ lk_38 rfl (mq_ckL_app _ _ lk_39 rfl (mq_ckL_app _ _ lk_40 rfl (mq_ckL_app _ _ lk_41 rfl (mq_ckL_app _ _ lk_42 rfl (mq_ckL_app _ _ lk_43 rfl (mq_ckL_app _ _ lk_44 rfl (mq_ckL_app _ _ lk_45 rfl (mq_ckL_app _ _ lk_46 rfl (mq_ckL_app _ _ lk_47 rfl (mq_ckL_app _ _ lk_48 rfl (mq_ckL_app _ _ lk_49 rfl (mq_ckL_app _ _ lk_50 rfl (mq_ckL_app _ _ lk_51 rfl (mq_ckL_app _ _ lk_52 rfl (mq_ckL_app _ _ lk_53 rfl (mq_ckL_app _ _ lk_54 rfl (mq_ckL_app _ _ lk_55 rfl (mq_ckL_app _ _ lk_56 rfl (mq_ckL_app _ _ lk_57 rfl (mq_ckL_app _ _ lk_58 rfl (mq_ckL_app _ _ lk_59 rfl (mq_ckL_app _ _ lk_60 rfl (mq_ckL_app _ _ lk_61 rfl (mq_ckL_app _ _ lk_62 rfl (mq_ckL_app _ _ lk_63 rfl (mq_ckL_app _ _ lk_64 rfl (mq_ckL_app _ _ lk_65 rfl (mq_ckL_app _ _ lk_66 rfl (mq_ckL_app _ _ lk_67 rfl (mq_ckL_app _ _ lk_68 rfl (mq_ckL_app _ _ lk_69 rfl (mq_ckL_app _ _ lk_70 rfl (mq_ckL_app _ _ lk_71 rfl (mq_ckL_app _ _ lk_72 rfl (mq_ckL_app _ _ lk_73 rfl (mq_ckL_app _ _ lk_74 rfl (mq_ckL_app _ _ lk_75 rfl (mq_ckL_app _ _ lk_76 rfl (mq_ckL_app _ _ lk_77 rfl (mq_ckL_app _ _ lk_78 rfl (mq_ckL_app _ _ lk_79 rfl (mq_ckL_app _ _ lk_80 rfl (mq_ckL_app _ _ lk_81 rfl (mq_ckL_app _ _ lk_82 rfl (mq_ckL_app _ _ lk_83 rfl (mq_ckL_app _ _ lk_84 rfl (mq_ckL_app _ _ lk_85 rfl (mq_ckL_app _ _ lk_86 rfl (mq_ckL_app _ _ lk_87 rfl (mq_ckL_app _ _ lk_88 rfl (mq_ckL_app _ _ lk_89 rfl (mq_ckL_app _ _ lk_90 rfl (mq_ckL_app _ _ lk_91 rfl (mq_ckL_app _ _ lk_92 rfl (mq_ckL_app _ _ lk_93 rfl (mq_ckL_app _ _ lk_94 rfl (mq_ckL_app _ _ lk_95 rfl (mq_ckL_app _ _ lk_96 rfl (mq_ckL_app _ _ lk_97 rfl (mq_ckL_app _ _ lk_98 rfl (rfl)))))))))))))))))))))))))))))))))))))))))))))))))))))))))))))))))))))))))))))))))))))))))))))))))))
set_option maxHeartbeats 16000000 in
set_option maxRecDepth 100000 in
theorem lq_18 (N : Nat) (l : mq_L) (st : List mq_V) (ρ' : mq_R) (μ' : mq_M) (cs : Nat) (hJ : (match kq_law[0]? with | some q => q.2.2 (N + 1) l st ρ' μ' cs | none => False)) (hbk : mq_bok μ') (hrl : mq_rgl l) : mq_wp mq_fm mq_rg mq_rp pq_law lq_cl lq_md 1084 (fun v _ _ cs => v = 1 ∧ cs ≤ 1084) (mq_KK kq_law N) 400 (mq_seek 18 pq_law) l st ρ' μ' cs := by
  obtain ⟨nw, sp, tl, tx, al⟩ := ρ'
  obtain ⟨i0, l0, rfl, hJ0⟩ := mq_tR_spec hJ
  obtain ⟨l1, rfl, hJ1⟩ := mq_tZ_spec hJ0
  obtain ⟨l2, rfl, hJ2⟩ := mq_tZ_spec hJ1
  obtain ⟨v3, l3, rfl, hJ3⟩ := mq_tI_spec hJ2
  obtain ⟨rfl, hJ4⟩ := mq_t0_spec hJ3
  clear hJ hJ0 hJ1 hJ2 hJ3
  obtain ⟨rfl, rfl, hcs, hc0, hc1, hc2, hinv, hE, hm0, hm1⟩ := hJ4
  obtain ⟨⟨hl3a, hl3b⟩, -⟩ := hrl
  repeat' (first | refine And.intro ?_ ?_ | intro _)
  all_goals try simp only [Int.reduceToNat, Int.reduceAdd, true_and, and_true, false_and, and_false, false_or, or_false, true_or, or_true, true_implies] at *
  all_goals first | omega | rfl | exact trivial | assumption | (have hag := ‹mq_ag _ _ _›; rw [mq_ag_at hag 97 0 (by decide +kernel)]; omega) | (have hag := ‹mq_ag _ _ _›; rw [mq_ag_at hag 69 0 (by decide +kernel), mq_ag_at hag 76 0 (by decide +kernel)]; assumption) | (have hag := ‹mq_ag _ _ _›; rw [mq_ag_at hag 69 0 (by decide +kernel), mq_ag_at hag 76 0 (by decide +kernel)]; exact hinv) | (have h1 : mq_ag _ μ' _ := (by assumption); simp only [mq_ag_at h1 97 0 (by decide +kernel)] at *; omega) | (have h2 := ‹mq_ag _ _ _›; have h1 : mq_ag _ μ' _ := (by assumption); rw [mq_ag_at h2 97 0 (by decide +kernel), mq_ag_at h1 97 0 (by decide +kernel)]; omega) | (have h2 := ‹mq_ag _ _ _›; have h1 : mq_ag _ μ' _ := (by assumption); rw [mq_ag_at h2 69 0 (by decide +kernel), mq_ag_at h2 76 0 (by decide +kernel), mq_ag_at h1 69 0 (by decide +kernel), mq_ag_at h1 76 0 (by decide +kernel)]; exact hinv) | exact hE | (have hag := ‹mq_ag _ _ _›; exact e46_ag (by decide +kernel) (by decide +kernel) hag hE) | (have h2 := ‹mq_ag _ _ _›; have h1 : mq_ag _ μ' _ := (by assumption); exact e46_ag (by decide +kernel) (by decide +kernel) h2 (e46_ag (by decide +kernel) (by decide +kernel) h1 hE)) | (have h2 := ‹mq_ag _ _ _›; have h1 : mq_ag _ μ' _ := (by assumption); exact e46_keep h1 h2 hE (by assumption) (by assumption) (by assumption) (by assumption) (by assumption) (by assumption) (by decide +kernel) (by decide +kernel) (by decide +kernel)) | (have h1 : mq_ag _ μ' _ := (by assumption); have e9 := e46_back h1 hE (by assumption) (by assumption) (by assumption) (by assumption) (by decide +kernel) (by decide +kernel); omega)
set_option maxHeartbeats 16000000 in
set_option maxRecDepth 100000 in
theorem lq_240 (N : Nat) (l : mq_L) (st : List mq_V) (ρ' : mq_R) (μ' : mq_M) (cs : Nat) (hJ : (match kq_law[1]? with | some q => q.2.2 (N + 1) l st ρ' μ' cs | none => False)) (hbk : mq_bok μ') (hrl : mq_rgl l) : mq_wp mq_fm mq_rg mq_rp pq_law lq_cl lq_md 1084 (fun v _ _ cs => v = 1 ∧ cs ≤ 1084) (mq_KK kq_law N) 400 (mq_seek 240 pq_law) l st ρ' μ' cs := by
  obtain ⟨nw, sp, tl, tx, al⟩ := ρ'
  obtain ⟨i0, l0, rfl, hJ0⟩ := mq_tR_spec hJ
  obtain ⟨l1, rfl, hJ1⟩ := mq_tZ_spec hJ0
  obtain ⟨l2, rfl, hJ2⟩ := mq_tZ_spec hJ1
  obtain ⟨v3, l3, rfl, hJ3⟩ := mq_tI_spec hJ2
  obtain ⟨rfl, hJ4⟩ := mq_t0_spec hJ3
  clear hJ hJ0 hJ1 hJ2 hJ3
  obtain ⟨rfl, rfl, hcs, hc0, hc1, hc2, hc3, hinv, hE, hm0, hm1⟩ := hJ4
  obtain ⟨⟨hl3a, hl3b⟩, -⟩ := hrl
  repeat' (first | refine And.intro ?_ ?_ | intro _)
  all_goals try simp only [Int.reduceToNat, Int.reduceAdd, true_and, and_true, false_and, and_false, false_or, or_false, true_or, or_true, true_implies] at *
  all_goals first | omega | rfl | exact trivial | assumption | (have hag := ‹mq_ag _ _ _›; rw [mq_ag_at hag 97 0 (by decide +kernel)]; omega) | (have hag := ‹mq_ag _ _ _›; rw [mq_ag_at hag 69 0 (by decide +kernel), mq_ag_at hag 76 0 (by decide +kernel)]; assumption) | (have hag := ‹mq_ag _ _ _›; rw [mq_ag_at hag 69 0 (by decide +kernel), mq_ag_at hag 76 0 (by decide +kernel)]; exact hinv) | (have h1 : mq_ag _ μ' _ := (by assumption); simp only [mq_ag_at h1 97 0 (by decide +kernel)] at *; omega) | (have h2 := ‹mq_ag _ _ _›; have h1 : mq_ag _ μ' _ := (by assumption); rw [mq_ag_at h2 97 0 (by decide +kernel), mq_ag_at h1 97 0 (by decide +kernel)]; omega) | (have h2 := ‹mq_ag _ _ _›; have h1 : mq_ag _ μ' _ := (by assumption); rw [mq_ag_at h2 69 0 (by decide +kernel), mq_ag_at h2 76 0 (by decide +kernel), mq_ag_at h1 69 0 (by decide +kernel), mq_ag_at h1 76 0 (by decide +kernel)]; exact hinv) | exact hE | (have hag := ‹mq_ag _ _ _›; exact e46_ag (by decide +kernel) (by decide +kernel) hag hE) | (have h2 := ‹mq_ag _ _ _›; have h1 : mq_ag _ μ' _ := (by assumption); exact e46_ag (by decide +kernel) (by decide +kernel) h2 (e46_ag (by decide +kernel) (by decide +kernel) h1 hE)) | (have h2 := ‹mq_ag _ _ _›; have h1 : mq_ag _ μ' _ := (by assumption); exact e46_keep h1 h2 hE (by assumption) (by assumption) (by assumption) (by assumption) (by assumption) (by assumption) (by decide +kernel) (by decide +kernel) (by decide +kernel)) | (have h1 : mq_ag _ μ' _ := (by assumption); have e9 := e46_back h1 hE (by assumption) (by assumption) (by assumption) (by assumption) (by decide +kernel) (by decide +kernel); omega)
set_option maxHeartbeats 16000000 in
set_option maxRecDepth 100000 in
theorem lq_270 (N : Nat) (l : mq_L) (st : List mq_V) (ρ' : mq_R) (μ' : mq_M) (cs : Nat) (hJ : (match kq_law[2]? with | some q => q.2.2 (N + 1) l st ρ' μ' cs | none => False)) (hbk : mq_bok μ') (hrl : mq_rgl l) : mq_wp mq_fm mq_rg mq_rp pq_law lq_cl lq_md 1084 (fun v _ _ cs => v = 1 ∧ cs ≤ 1084) (mq_KK kq_law N) 400 (mq_seek 270 pq_law) l st ρ' μ' cs := by
  obtain ⟨nw, sp, tl, tx, al⟩ := ρ'
  obtain ⟨i0, l0, rfl, hJ0⟩ := mq_tR_spec hJ
  obtain ⟨l1, rfl, hJ1⟩ := mq_tZ_spec hJ0
  obtain ⟨l2, rfl, hJ2⟩ := mq_tZ_spec hJ1
  obtain ⟨v3, l3, rfl, hJ3⟩ := mq_tI_spec hJ2
  obtain ⟨rfl, hJ4⟩ := mq_t0_spec hJ3
  clear hJ hJ0 hJ1 hJ2 hJ3
  obtain ⟨rfl, rfl, hcs, hc0, hc1, hc2, hc3, hinv, hE, hm0, hm1⟩ := hJ4
  obtain ⟨⟨hl3a, hl3b⟩, -⟩ := hrl
  repeat' (first | refine And.intro ?_ ?_ | intro _)
  all_goals try simp only [Int.reduceToNat, Int.reduceAdd, true_and, and_true, false_and, and_false, false_or, or_false, true_or, or_true, true_implies] at *
  all_goals first | omega | rfl | exact trivial | assumption | (have hag := ‹mq_ag _ _ _›; rw [mq_ag_at hag 97 0 (by decide +kernel)]; omega) | (have hag := ‹mq_ag _ _ _›; rw [mq_ag_at hag 69 0 (by decide +kernel), mq_ag_at hag 76 0 (by decide +kernel)]; assumption) | (have hag := ‹mq_ag _ _ _›; rw [mq_ag_at hag 69 0 (by decide +kernel), mq_ag_at hag 76 0 (by decide +kernel)]; exact hinv) | (have h1 : mq_ag _ μ' _ := (by assumption); simp only [mq_ag_at h1 97 0 (by decide +kernel)] at *; omega) | (have h2 := ‹mq_ag _ _ _›; have h1 : mq_ag _ μ' _ := (by assumption); rw [mq_ag_at h2 97 0 (by decide +kernel), mq_ag_at h1 97 0 (by decide +kernel)]; omega) | (have h2 := ‹mq_ag _ _ _›; have h1 : mq_ag _ μ' _ := (by assumption); rw [mq_ag_at h2 69 0 (by decide +kernel), mq_ag_at h2 76 0 (by decide +kernel), mq_ag_at h1 69 0 (by decide +kernel), mq_ag_at h1 76 0 (by decide +kernel)]; exact hinv) | exact hE | (have hag := ‹mq_ag _ _ _›; exact e46_ag (by decide +kernel) (by decide +kernel) hag hE) | (have h2 := ‹mq_ag _ _ _›; have h1 : mq_ag _ μ' _ := (by assumption); exact e46_ag (by decide +kernel) (by decide +kernel) h2 (e46_ag (by decide +kernel) (by decide +kernel) h1 hE)) | (have h2 := ‹mq_ag _ _ _›; have h1 : mq_ag _ μ' _ := (by assumption); exact e46_keep h1 h2 hE (by assumption) (by assumption) (by assumption) (by assumption) (by assumption) (by assumption) (by decide +kernel) (by decide +kernel) (by decide +kernel)) | (have h1 : mq_ag _ μ' _ := (by assumption); have e9 := e46_back h1 hE (by assumption) (by assumption) (by assumption) (by assumption) (by decide +kernel) (by decide +kernel); omega)
set_option maxHeartbeats 16000000 in
set_option maxRecDepth 100000 in
theorem lq_303 (N : Nat) (l : mq_L) (st : List mq_V) (ρ' : mq_R) (μ' : mq_M) (cs : Nat) (hJ : (match kq_law[3]? with | some q => q.2.2 (N + 1) l st ρ' μ' cs | none => False)) (hbk : mq_bok μ') (hrl : mq_rgl l) : mq_wp mq_fm mq_rg mq_rp pq_law lq_cl lq_md 1084 (fun v _ _ cs => v = 1 ∧ cs ≤ 1084) (mq_KK kq_law N) 400 (mq_seek 303 pq_law) l st ρ' μ' cs := by
  obtain ⟨nw, sp, tl, tx, al⟩ := ρ'
  obtain ⟨i0, l0, rfl, hJ0⟩ := mq_tR_spec hJ
  obtain ⟨l1, rfl, hJ1⟩ := mq_tZ_spec hJ0
  obtain ⟨l2, rfl, hJ2⟩ := mq_tZ_spec hJ1
  obtain ⟨v3, l3, rfl, hJ3⟩ := mq_tI_spec hJ2
  obtain ⟨rfl, hJ4⟩ := mq_t0_spec hJ3
  clear hJ hJ0 hJ1 hJ2 hJ3
  obtain ⟨rfl, rfl, hcs, hc0, hc1, hc2, hc3, hinv, hE, hm0, hm1⟩ := hJ4
  obtain ⟨⟨hl3a, hl3b⟩, -⟩ := hrl
  repeat' (first | refine And.intro ?_ ?_ | intro _)
  all_goals try simp only [Int.reduceToNat, Int.reduceAdd, true_and, and_true, false_and, and_false, false_or, or_false, true_or, or_true, true_implies] at *
  all_goals first | omega | rfl | exact trivial | assumption | (have hag := ‹mq_ag _ _ _›; rw [mq_ag_at hag 97 0 (by decide +kernel)]; omega) | (have hag := ‹mq_ag _ _ _›; rw [mq_ag_at hag 69 0 (by decide +kernel), mq_ag_at hag 76 0 (by decide +kernel)]; assumption) | (have hag := ‹mq_ag _ _ _›; rw [mq_ag_at hag 69 0 (by decide +kernel), mq_ag_at hag 76 0 (by decide +kernel)]; exact hinv) | (have h1 : mq_ag _ μ' _ := (by assumption); simp only [mq_ag_at h1 97 0 (by decide +kernel)] at *; omega) | (have h2 := ‹mq_ag _ _ _›; have h1 : mq_ag _ μ' _ := (by assumption); rw [mq_ag_at h2 97 0 (by decide +kernel), mq_ag_at h1 97 0 (by decide +kernel)]; omega) | (have h2 := ‹mq_ag _ _ _›; have h1 : mq_ag _ μ' _ := (by assumption); rw [mq_ag_at h2 69 0 (by decide +kernel), mq_ag_at h2 76 0 (by decide +kernel), mq_ag_at h1 69 0 (by decide +kernel), mq_ag_at h1 76 0 (by decide +kernel)]; exact hinv) | exact hE | (have hag := ‹mq_ag _ _ _›; exact e46_ag (by decide +kernel) (by decide +kernel) hag hE) | (have h2 := ‹mq_ag _ _ _›; have h1 : mq_ag _ μ' _ := (by assumption); exact e46_ag (by decide +kernel) (by decide +kernel) h2 (e46_ag (by decide +kernel) (by decide +kernel) h1 hE)) | (have h2 := ‹mq_ag _ _ _›; have h1 : mq_ag _ μ' _ := (by assumption); exact e46_keep h1 h2 hE (by assumption) (by assumption) (by assumption) (by assumption) (by assumption) (by assumption) (by decide +kernel) (by decide +kernel) (by decide +kernel)) | (have h1 : mq_ag _ μ' _ := (by assumption); have e9 := e46_back h1 hE (by assumption) (by assumption) (by assumption) (by assumption) (by decide +kernel) (by decide +kernel); omega)
set_option maxHeartbeats 16000000 in
set_option maxRecDepth 100000 in
theorem lq_313 (N : Nat) (l : mq_L) (st : List mq_V) (ρ' : mq_R) (μ' : mq_M) (cs : Nat) (hJ : (match kq_law[4]? with | some q => q.2.2 (N + 1) l st ρ' μ' cs | none => False)) (hbk : mq_bok μ') (hrl : mq_rgl l) : mq_wp mq_fm mq_rg mq_rp pq_law lq_cl lq_md 1084 (fun v _ _ cs => v = 1 ∧ cs ≤ 1084) (mq_KK kq_law N) 400 (mq_seek 313 pq_law) l st ρ' μ' cs := by
  obtain ⟨nw, sp, tl, tx, al⟩ := ρ'
  obtain ⟨i0, l0, rfl, hJ0⟩ := mq_tR_spec hJ
  obtain ⟨l1, rfl, hJ1⟩ := mq_tZ_spec hJ0
  obtain ⟨l2, rfl, hJ2⟩ := mq_tZ_spec hJ1
  obtain ⟨v3, l3, rfl, hJ3⟩ := mq_tI_spec hJ2
  obtain ⟨rfl, hJ4⟩ := mq_t0_spec hJ3
  clear hJ hJ0 hJ1 hJ2 hJ3
  obtain ⟨rfl, rfl, hcs, hc0, hc1, hc2, hc3, hinv, hE, hm0, hm1⟩ := hJ4
  obtain ⟨⟨hl3a, hl3b⟩, -⟩ := hrl
  repeat' (first | refine And.intro ?_ ?_ | intro _)
  all_goals try simp only [Int.reduceToNat, Int.reduceAdd, true_and, and_true, false_and, and_false, false_or, or_false, true_or, or_true, true_implies] at *
  all_goals first | omega | rfl | exact trivial | assumption | (have hag := ‹mq_ag _ _ _›; rw [mq_ag_at hag 97 0 (by decide +kernel)]; omega) | (have hag := ‹mq_ag _ _ _›; rw [mq_ag_at hag 69 0 (by decide +kernel), mq_ag_at hag 76 0 (by decide +kernel)]; assumption) | (have hag := ‹mq_ag _ _ _›; rw [mq_ag_at hag 69 0 (by decide +kernel), mq_ag_at hag 76 0 (by decide +kernel)]; exact hinv) | (have h1 : mq_ag _ μ' _ := (by assumption); simp only [mq_ag_at h1 97 0 (by decide +kernel)] at *; omega) | (have h2 := ‹mq_ag _ _ _›; have h1 : mq_ag _ μ' _ := (by assumption); rw [mq_ag_at h2 97 0 (by decide +kernel), mq_ag_at h1 97 0 (by decide +kernel)]; omega) | (have h2 := ‹mq_ag _ _ _›; have h1 : mq_ag _ μ' _ := (by assumption); rw [mq_ag_at h2 69 0 (by decide +kernel), mq_ag_at h2 76 0 (by decide +kernel), mq_ag_at h1 69 0 (by decide +kernel), mq_ag_at h1 76 0 (by decide +kernel)]; exact hinv) | exact hE | (have hag := ‹mq_ag _ _ _›; exact e46_ag (by decide +kernel) (by decide +kernel) hag hE) | (have h2 := ‹mq_ag _ _ _›; have h1 : mq_ag _ μ' _ := (by assumption); exact e46_ag (by decide +kernel) (by decide +kernel) h2 (e46_ag (by decide +kernel) (by decide +kernel) h1 hE)) | (have h2 := ‹mq_ag _ _ _›; have h1 : mq_ag _ μ' _ := (by assumption); exact e46_keep h1 h2 hE (by assumption) (by assumption) (by assumption) (by assumption) (by assumption) (by assumption) (by decide +kernel) (by decide +kernel) (by decide +kernel)) | (have h1 : mq_ag _ μ' _ := (by assumption); have e9 := e46_back h1 hE (by assumption) (by assumption) (by assumption) (by assumption) (by decide +kernel) (by decide +kernel); omega)
set_option maxHeartbeats 16000000 in
set_option maxRecDepth 100000 in
theorem lq_326 (N : Nat) (l : mq_L) (st : List mq_V) (ρ' : mq_R) (μ' : mq_M) (cs : Nat) (hJ : (match kq_law[5]? with | some q => q.2.2 (N + 1) l st ρ' μ' cs | none => False)) (hbk : mq_bok μ') (hrl : mq_rgl l) : mq_wp mq_fm mq_rg mq_rp pq_law lq_cl lq_md 1084 (fun v _ _ cs => v = 1 ∧ cs ≤ 1084) (mq_KK kq_law N) 400 (mq_seek 326 pq_law) l st ρ' μ' cs := by
  obtain ⟨nw, sp, tl, tx, al⟩ := ρ'
  obtain ⟨i0, l0, rfl, hJ0⟩ := mq_tR_spec hJ
  obtain ⟨l1, rfl, hJ1⟩ := mq_tZ_spec hJ0
  obtain ⟨l2, rfl, hJ2⟩ := mq_tZ_spec hJ1
  obtain ⟨v3, l3, rfl, hJ3⟩ := mq_tI_spec hJ2
  obtain ⟨rfl, hJ4⟩ := mq_t0_spec hJ3
  clear hJ hJ0 hJ1 hJ2 hJ3
  obtain ⟨rfl, rfl, hcs, hc0, hc1, hc2, hc3, hinv, hE, hm0, hm1⟩ := hJ4
  obtain ⟨⟨hl3a, hl3b⟩, -⟩ := hrl
  repeat' (first | refine And.intro ?_ ?_ | intro _)
  all_goals try simp only [Int.reduceToNat, Int.reduceAdd, true_and, and_true, false_and, and_false, false_or, or_false, true_or, or_true, true_implies] at *
  all_goals first | omega | rfl | exact trivial | assumption | (have hag := ‹mq_ag _ _ _›; rw [mq_ag_at hag 97 0 (by decide +kernel)]; omega) | (have hag := ‹mq_ag _ _ _›; rw [mq_ag_at hag 69 0 (by decide +kernel), mq_ag_at hag 76 0 (by decide +kernel)]; assumption) | (have hag := ‹mq_ag _ _ _›; rw [mq_ag_at hag 69 0 (by decide +kernel), mq_ag_at hag 76 0 (by decide +kernel)]; exact hinv) | (have h1 : mq_ag _ μ' _ := (by assumption); simp only [mq_ag_at h1 97 0 (by decide +kernel)] at *; omega) | (have h2 := ‹mq_ag _ _ _›; have h1 : mq_ag _ μ' _ := (by assumption); rw [mq_ag_at h2 97 0 (by decide +kernel), mq_ag_at h1 97 0 (by decide +kernel)]; omega) | (have h2 := ‹mq_ag _ _ _›; have h1 : mq_ag _ μ' _ := (by assumption); rw [mq_ag_at h2 69 0 (by decide +kernel), mq_ag_at h2 76 0 (by decide +kernel), mq_ag_at h1 69 0 (by decide +kernel), mq_ag_at h1 76 0 (by decide +kernel)]; exact hinv) | exact hE | (have hag := ‹mq_ag _ _ _›; exact e46_ag (by decide +kernel) (by decide +kernel) hag hE) | (have h2 := ‹mq_ag _ _ _›; have h1 : mq_ag _ μ' _ := (by assumption); exact e46_ag (by decide +kernel) (by decide +kernel) h2 (e46_ag (by decide +kernel) (by decide +kernel) h1 hE)) | (have h2 := ‹mq_ag _ _ _›; have h1 : mq_ag _ μ' _ := (by assumption); exact e46_keep h1 h2 hE (by assumption) (by assumption) (by assumption) (by assumption) (by assumption) (by assumption) (by decide +kernel) (by decide +kernel) (by decide +kernel)) | (have h1 : mq_ag _ μ' _ := (by assumption); have e9 := e46_back h1 hE (by assumption) (by assumption) (by assumption) (by assumption) (by decide +kernel) (by decide +kernel); omega)
set_option maxHeartbeats 16000000 in
set_option maxRecDepth 100000 in
theorem lq_331 (N : Nat) (l : mq_L) (st : List mq_V) (ρ' : mq_R) (μ' : mq_M) (cs : Nat) (hJ : (match kq_law[6]? with | some q => q.2.2 (N + 1) l st ρ' μ' cs | none => False)) (hbk : mq_bok μ') (hrl : mq_rgl l) : mq_wp mq_fm mq_rg mq_rp pq_law lq_cl lq_md 1084 (fun v _ _ cs => v = 1 ∧ cs ≤ 1084) (mq_KK kq_law N) 400 (mq_seek 331 pq_law) l st ρ' μ' cs := by
  obtain ⟨nw, sp, tl, tx, al⟩ := ρ'
  obtain ⟨i0, l0, rfl, hJ0⟩ := mq_tR_spec hJ
  obtain ⟨l1, rfl, hJ1⟩ := mq_tZ_spec hJ0
  obtain ⟨l2, rfl, hJ2⟩ := mq_tZ_spec hJ1
  obtain ⟨v3, l3, rfl, hJ3⟩ := mq_tI_spec hJ2
  obtain ⟨rfl, hJ4⟩ := mq_t0_spec hJ3
  clear hJ hJ0 hJ1 hJ2 hJ3
  obtain ⟨rfl, rfl, hcs, hc0, hc1, hc2, hc3, hinv, hE, hm0, hm1⟩ := hJ4
  obtain ⟨⟨hl3a, hl3b⟩, -⟩ := hrl
  repeat' (first | refine And.intro ?_ ?_ | intro _)
  all_goals try simp only [Int.reduceToNat, Int.reduceAdd, true_and, and_true, false_and, and_false, false_or, or_false, true_or, or_true, true_implies] at *
  all_goals first | omega | rfl | exact trivial | assumption | (have hag := ‹mq_ag _ _ _›; rw [mq_ag_at hag 97 0 (by decide +kernel)]; omega) | (have hag := ‹mq_ag _ _ _›; rw [mq_ag_at hag 69 0 (by decide +kernel), mq_ag_at hag 76 0 (by decide +kernel)]; assumption) | (have hag := ‹mq_ag _ _ _›; rw [mq_ag_at hag 69 0 (by decide +kernel), mq_ag_at hag 76 0 (by decide +kernel)]; exact hinv) | (have h1 : mq_ag _ μ' _ := (by assumption); simp only [mq_ag_at h1 97 0 (by decide +kernel)] at *; omega) | (have h2 := ‹mq_ag _ _ _›; have h1 : mq_ag _ μ' _ := (by assumption); rw [mq_ag_at h2 97 0 (by decide +kernel), mq_ag_at h1 97 0 (by decide +kernel)]; omega) | (have h2 := ‹mq_ag _ _ _›; have h1 : mq_ag _ μ' _ := (by assumption); rw [mq_ag_at h2 69 0 (by decide +kernel), mq_ag_at h2 76 0 (by decide +kernel), mq_ag_at h1 69 0 (by decide +kernel), mq_ag_at h1 76 0 (by decide +kernel)]; exact hinv) | exact hE | (have hag := ‹mq_ag _ _ _›; exact e46_ag (by decide +kernel) (by decide +kernel) hag hE) | (have h2 := ‹mq_ag _ _ _›; have h1 : mq_ag _ μ' _ := (by assumption); exact e46_ag (by decide +kernel) (by decide +kernel) h2 (e46_ag (by decide +kernel) (by decide +kernel) h1 hE)) | (have h2 := ‹mq_ag _ _ _›; have h1 : mq_ag _ μ' _ := (by assumption); exact e46_keep h1 h2 hE (by assumption) (by assumption) (by assumption) (by assumption) (by assumption) (by assumption) (by decide +kernel) (by decide +kernel) (by decide +kernel)) | (have h1 : mq_ag _ μ' _ := (by assumption); have e9 := e46_back h1 hE (by assumption) (by assumption) (by assumption) (by assumption) (by decide +kernel) (by decide +kernel); omega)
set_option maxHeartbeats 16000000 in
set_option maxRecDepth 100000 in
theorem lq_339 (N : Nat) (l : mq_L) (st : List mq_V) (ρ' : mq_R) (μ' : mq_M) (cs : Nat) (hJ : (match kq_law[7]? with | some q => q.2.2 (N + 1) l st ρ' μ' cs | none => False)) (hbk : mq_bok μ') (hrl : mq_rgl l) : mq_wp mq_fm mq_rg mq_rp pq_law lq_cl lq_md 1084 (fun v _ _ cs => v = 1 ∧ cs ≤ 1084) (mq_KK kq_law N) 400 (mq_seek 339 pq_law) l st ρ' μ' cs := by
  obtain ⟨nw, sp, tl, tx, al⟩ := ρ'
  obtain ⟨i0, l0, rfl, hJ0⟩ := mq_tR_spec hJ
  obtain ⟨l1, rfl, hJ1⟩ := mq_tZ_spec hJ0
  obtain ⟨l2, rfl, hJ2⟩ := mq_tZ_spec hJ1
  obtain ⟨v3, l3, rfl, hJ3⟩ := mq_tI_spec hJ2
  obtain ⟨rfl, hJ4⟩ := mq_t0_spec hJ3
  clear hJ hJ0 hJ1 hJ2 hJ3
  obtain ⟨rfl, rfl, hcs, hc0, hc1, hc2, hc3, hinv, hE, hm0, hm1⟩ := hJ4
  obtain ⟨⟨hl3a, hl3b⟩, -⟩ := hrl
  repeat' (first | refine And.intro ?_ ?_ | intro _)
  all_goals try simp only [Int.reduceToNat, Int.reduceAdd, true_and, and_true, false_and, and_false, false_or, or_false, true_or, or_true, true_implies] at *
  all_goals first | omega | rfl | exact trivial | assumption | (have hag := ‹mq_ag _ _ _›; rw [mq_ag_at hag 97 0 (by decide +kernel)]; omega) | (have hag := ‹mq_ag _ _ _›; rw [mq_ag_at hag 69 0 (by decide +kernel), mq_ag_at hag 76 0 (by decide +kernel)]; assumption) | (have hag := ‹mq_ag _ _ _›; rw [mq_ag_at hag 69 0 (by decide +kernel), mq_ag_at hag 76 0 (by decide +kernel)]; exact hinv) | (have h1 : mq_ag _ μ' _ := (by assumption); simp only [mq_ag_at h1 97 0 (by decide +kernel)] at *; omega) | (have h2 := ‹mq_ag _ _ _›; have h1 : mq_ag _ μ' _ := (by assumption); rw [mq_ag_at h2 97 0 (by decide +kernel), mq_ag_at h1 97 0 (by decide +kernel)]; omega) | (have h2 := ‹mq_ag _ _ _›; have h1 : mq_ag _ μ' _ := (by assumption); rw [mq_ag_at h2 69 0 (by decide +kernel), mq_ag_at h2 76 0 (by decide +kernel), mq_ag_at h1 69 0 (by decide +kernel), mq_ag_at h1 76 0 (by decide +kernel)]; exact hinv) | exact hE | (have hag := ‹mq_ag _ _ _›; exact e46_ag (by decide +kernel) (by decide +kernel) hag hE) | (have h2 := ‹mq_ag _ _ _›; have h1 : mq_ag _ μ' _ := (by assumption); exact e46_ag (by decide +kernel) (by decide +kernel) h2 (e46_ag (by decide +kernel) (by decide +kernel) h1 hE)) | (have h2 := ‹mq_ag _ _ _›; have h1 : mq_ag _ μ' _ := (by assumption); exact e46_keep h1 h2 hE (by assumption) (by assumption) (by assumption) (by assumption) (by assumption) (by assumption) (by decide +kernel) (by decide +kernel) (by decide +kernel)) | (have h1 : mq_ag _ μ' _ := (by assumption); have e9 := e46_back h1 hE (by assumption) (by assumption) (by assumption) (by assumption) (by decide +kernel) (by decide +kernel); omega)
set_option maxHeartbeats 16000000 in
set_option maxRecDepth 100000 in
theorem lq_349 (N : Nat) (l : mq_L) (st : List mq_V) (ρ' : mq_R) (μ' : mq_M) (cs : Nat) (hJ : (match kq_law[8]? with | some q => q.2.2 (N + 1) l st ρ' μ' cs | none => False)) (hbk : mq_bok μ') (hrl : mq_rgl l) : mq_wp mq_fm mq_rg mq_rp pq_law lq_cl lq_md 1084 (fun v _ _ cs => v = 1 ∧ cs ≤ 1084) (mq_KK kq_law N) 400 (mq_seek 349 pq_law) l st ρ' μ' cs := by
  obtain ⟨nw, sp, tl, tx, al⟩ := ρ'
  obtain ⟨i0, l0, rfl, hJ0⟩ := mq_tR_spec hJ
  obtain ⟨l1, rfl, hJ1⟩ := mq_tZ_spec hJ0
  obtain ⟨l2, rfl, hJ2⟩ := mq_tZ_spec hJ1
  obtain ⟨v3, l3, rfl, hJ3⟩ := mq_tI_spec hJ2
  obtain ⟨rfl, hJ4⟩ := mq_t0_spec hJ3
  clear hJ hJ0 hJ1 hJ2 hJ3
  obtain ⟨rfl, rfl, hcs, hc0, hc1, hc2, hc3, hinv, hE, hm0, hm1⟩ := hJ4
  obtain ⟨⟨hl3a, hl3b⟩, -⟩ := hrl
  repeat' (first | refine And.intro ?_ ?_ | intro _)
  all_goals try simp only [Int.reduceToNat, Int.reduceAdd, true_and, and_true, false_and, and_false, false_or, or_false, true_or, or_true, true_implies] at *
  all_goals first | omega | rfl | exact trivial | assumption | (have hag := ‹mq_ag _ _ _›; rw [mq_ag_at hag 97 0 (by decide +kernel)]; omega) | (have hag := ‹mq_ag _ _ _›; rw [mq_ag_at hag 69 0 (by decide +kernel), mq_ag_at hag 76 0 (by decide +kernel)]; assumption) | (have hag := ‹mq_ag _ _ _›; rw [mq_ag_at hag 69 0 (by decide +kernel), mq_ag_at hag 76 0 (by decide +kernel)]; exact hinv) | (have h1 : mq_ag _ μ' _ := (by assumption); simp only [mq_ag_at h1 97 0 (by decide +kernel)] at *; omega) | (have h2 := ‹mq_ag _ _ _›; have h1 : mq_ag _ μ' _ := (by assumption); rw [mq_ag_at h2 97 0 (by decide +kernel), mq_ag_at h1 97 0 (by decide +kernel)]; omega) | (have h2 := ‹mq_ag _ _ _›; have h1 : mq_ag _ μ' _ := (by assumption); rw [mq_ag_at h2 69 0 (by decide +kernel), mq_ag_at h2 76 0 (by decide +kernel), mq_ag_at h1 69 0 (by decide +kernel), mq_ag_at h1 76 0 (by decide +kernel)]; exact hinv) | exact hE | (have hag := ‹mq_ag _ _ _›; exact e46_ag (by decide +kernel) (by decide +kernel) hag hE) | (have h2 := ‹mq_ag _ _ _›; have h1 : mq_ag _ μ' _ := (by assumption); exact e46_ag (by decide +kernel) (by decide +kernel) h2 (e46_ag (by decide +kernel) (by decide +kernel) h1 hE)) | (have h2 := ‹mq_ag _ _ _›; have h1 : mq_ag _ μ' _ := (by assumption); exact e46_keep h1 h2 hE (by assumption) (by assumption) (by assumption) (by assumption) (by assumption) (by assumption) (by decide +kernel) (by decide +kernel) (by decide +kernel)) | (have h1 : mq_ag _ μ' _ := (by assumption); have e9 := e46_back h1 hE (by assumption) (by assumption) (by assumption) (by assumption) (by decide +kernel) (by decide +kernel); omega)
set_option maxHeartbeats 16000000 in
set_option maxRecDepth 100000 in
theorem lq_362 (N : Nat) (l : mq_L) (st : List mq_V) (ρ' : mq_R) (μ' : mq_M) (cs : Nat) (hJ : (match kq_law[9]? with | some q => q.2.2 (N + 1) l st ρ' μ' cs | none => False)) (hbk : mq_bok μ') (hrl : mq_rgl l) : mq_wp mq_fm mq_rg mq_rp pq_law lq_cl lq_md 1084 (fun v _ _ cs => v = 1 ∧ cs ≤ 1084) (mq_KK kq_law N) 400 (mq_seek 362 pq_law) l st ρ' μ' cs := by
  obtain ⟨nw, sp, tl, tx, al⟩ := ρ'
  obtain ⟨i0, l0, rfl, hJ0⟩ := mq_tR_spec hJ
  obtain ⟨l1, rfl, hJ1⟩ := mq_tZ_spec hJ0
  obtain ⟨l2, rfl, hJ2⟩ := mq_tZ_spec hJ1
  obtain ⟨v3, l3, rfl, hJ3⟩ := mq_tI_spec hJ2
  obtain ⟨rfl, hJ4⟩ := mq_t0_spec hJ3
  clear hJ hJ0 hJ1 hJ2 hJ3
  obtain ⟨rfl, rfl, hcs, hc0, hc1, hc2, hc3, hinv, hE, hm0, hm1⟩ := hJ4
  obtain ⟨⟨hl3a, hl3b⟩, -⟩ := hrl
  repeat' (first | refine And.intro ?_ ?_ | intro _)
  all_goals try simp only [Int.reduceToNat, Int.reduceAdd, true_and, and_true, false_and, and_false, false_or, or_false, true_or, or_true, true_implies] at *
  all_goals first | omega | rfl | exact trivial | assumption | (have hag := ‹mq_ag _ _ _›; rw [mq_ag_at hag 97 0 (by decide +kernel)]; omega) | (have hag := ‹mq_ag _ _ _›; rw [mq_ag_at hag 69 0 (by decide +kernel), mq_ag_at hag 76 0 (by decide +kernel)]; assumption) | (have hag := ‹mq_ag _ _ _›; rw [mq_ag_at hag 69 0 (by decide +kernel), mq_ag_at hag 76 0 (by decide +kernel)]; exact hinv) | (have h1 : mq_ag _ μ' _ := (by assumption); simp only [mq_ag_at h1 97 0 (by decide +kernel)] at *; omega) | (have h2 := ‹mq_ag _ _ _›; have h1 : mq_ag _ μ' _ := (by assumption); rw [mq_ag_at h2 97 0 (by decide +kernel), mq_ag_at h1 97 0 (by decide +kernel)]; omega) | (have h2 := ‹mq_ag _ _ _›; have h1 : mq_ag _ μ' _ := (by assumption); rw [mq_ag_at h2 69 0 (by decide +kernel), mq_ag_at h2 76 0 (by decide +kernel), mq_ag_at h1 69 0 (by decide +kernel), mq_ag_at h1 76 0 (by decide +kernel)]; exact hinv) | exact hE | (have hag := ‹mq_ag _ _ _›; exact e46_ag (by decide +kernel) (by decide +kernel) hag hE) | (have h2 := ‹mq_ag _ _ _›; have h1 : mq_ag _ μ' _ := (by assumption); exact e46_ag (by decide +kernel) (by decide +kernel) h2 (e46_ag (by decide +kernel) (by decide +kernel) h1 hE)) | (have h2 := ‹mq_ag _ _ _›; have h1 : mq_ag _ μ' _ := (by assumption); exact e46_keep h1 h2 hE (by assumption) (by assumption) (by assumption) (by assumption) (by assumption) (by assumption) (by decide +kernel) (by decide +kernel) (by decide +kernel)) | (have h1 : mq_ag _ μ' _ := (by assumption); have e9 := e46_back h1 hE (by assumption) (by assumption) (by assumption) (by assumption) (by decide +kernel) (by decide +kernel); omega)
set_option maxHeartbeats 16000000 in
set_option maxRecDepth 100000 in
theorem lq_377 (N : Nat) (l : mq_L) (st : List mq_V) (ρ' : mq_R) (μ' : mq_M) (cs : Nat) (hJ : (match kq_law[10]? with | some q => q.2.2 (N + 1) l st ρ' μ' cs | none => False)) (hbk : mq_bok μ') (hrl : mq_rgl l) : mq_wp mq_fm mq_rg mq_rp pq_law lq_cl lq_md 1084 (fun v _ _ cs => v = 1 ∧ cs ≤ 1084) (mq_KK kq_law N) 400 (mq_seek 377 pq_law) l st ρ' μ' cs := by
  obtain ⟨nw, sp, tl, tx, al⟩ := ρ'
  obtain ⟨i0, l0, rfl, hJ0⟩ := mq_tR_spec hJ
  obtain ⟨l1, rfl, hJ1⟩ := mq_tZ_spec hJ0
  obtain ⟨l2, rfl, hJ2⟩ := mq_tZ_spec hJ1
  obtain ⟨v3, l3, rfl, hJ3⟩ := mq_tI_spec hJ2
  obtain ⟨rfl, hJ4⟩ := mq_t0_spec hJ3
  clear hJ hJ0 hJ1 hJ2 hJ3
  obtain ⟨rfl, rfl, hcs, hc0, hc1, hc2, hc3, hinv, hE, hm0, hm1⟩ := hJ4
  obtain ⟨⟨hl3a, hl3b⟩, -⟩ := hrl
  repeat' (first | refine And.intro ?_ ?_ | intro _)
  all_goals try simp only [Int.reduceToNat, Int.reduceAdd, true_and, and_true, false_and, and_false, false_or, or_false, true_or, or_true, true_implies] at *
  all_goals first | omega | rfl | exact trivial | assumption | (have hag := ‹mq_ag _ _ _›; rw [mq_ag_at hag 97 0 (by decide +kernel)]; omega) | (have hag := ‹mq_ag _ _ _›; rw [mq_ag_at hag 69 0 (by decide +kernel), mq_ag_at hag 76 0 (by decide +kernel)]; assumption) | (have hag := ‹mq_ag _ _ _›; rw [mq_ag_at hag 69 0 (by decide +kernel), mq_ag_at hag 76 0 (by decide +kernel)]; exact hinv) | (have h1 : mq_ag _ μ' _ := (by assumption); simp only [mq_ag_at h1 97 0 (by decide +kernel)] at *; omega) | (have h2 := ‹mq_ag _ _ _›; have h1 : mq_ag _ μ' _ := (by assumption); rw [mq_ag_at h2 97 0 (by decide +kernel), mq_ag_at h1 97 0 (by decide +kernel)]; omega) | (have h2 := ‹mq_ag _ _ _›; have h1 : mq_ag _ μ' _ := (by assumption); rw [mq_ag_at h2 69 0 (by decide +kernel), mq_ag_at h2 76 0 (by decide +kernel), mq_ag_at h1 69 0 (by decide +kernel), mq_ag_at h1 76 0 (by decide +kernel)]; exact hinv) | exact hE | (have hag := ‹mq_ag _ _ _›; exact e46_ag (by decide +kernel) (by decide +kernel) hag hE) | (have h2 := ‹mq_ag _ _ _›; have h1 : mq_ag _ μ' _ := (by assumption); exact e46_ag (by decide +kernel) (by decide +kernel) h2 (e46_ag (by decide +kernel) (by decide +kernel) h1 hE)) | (have h2 := ‹mq_ag _ _ _›; have h1 : mq_ag _ μ' _ := (by assumption); exact e46_keep h1 h2 hE (by assumption) (by assumption) (by assumption) (by assumption) (by assumption) (by assumption) (by decide +kernel) (by decide +kernel) (by decide +kernel)) | (have h1 : mq_ag _ μ' _ := (by assumption); have e9 := e46_back h1 hE (by assumption) (by assumption) (by assumption) (by assumption) (by decide +kernel) (by decide +kernel); omega)
set_option maxHeartbeats 16000000 in
set_option maxRecDepth 100000 in
theorem lq_395 (N : Nat) (l : mq_L) (st : List mq_V) (ρ' : mq_R) (μ' : mq_M) (cs : Nat) (hJ : (match kq_law[11]? with | some q => q.2.2 (N + 1) l st ρ' μ' cs | none => False)) (hbk : mq_bok μ') (hrl : mq_rgl l) : mq_wp mq_fm mq_rg mq_rp pq_law lq_cl lq_md 1084 (fun v _ _ cs => v = 1 ∧ cs ≤ 1084) (mq_KK kq_law N) 400 (mq_seek 395 pq_law) l st ρ' μ' cs := by
  obtain ⟨nw, sp, tl, tx, al⟩ := ρ'
  obtain ⟨i0, l0, rfl, hJ0⟩ := mq_tR_spec hJ
  obtain ⟨l1, rfl, hJ1⟩ := mq_tZ_spec hJ0
  obtain ⟨l2, rfl, hJ2⟩ := mq_tZ_spec hJ1
  obtain ⟨v3, l3, rfl, hJ3⟩ := mq_tI_spec hJ2
  obtain ⟨rfl, hJ4⟩ := mq_t0_spec hJ3
  clear hJ hJ0 hJ1 hJ2 hJ3
  obtain ⟨rfl, rfl, hcs, hc0, hc1, hc2, hc3, hinv, hE, hm0, hm1⟩ := hJ4
  obtain ⟨⟨hl3a, hl3b⟩, -⟩ := hrl
  repeat' (first | refine And.intro ?_ ?_ | intro _)
  all_goals try simp only [Int.reduceToNat, Int.reduceAdd, true_and, and_true, false_and, and_false, false_or, or_false, true_or, or_true, true_implies] at *
  all_goals first | omega | rfl | exact trivial | assumption | (have hag := ‹mq_ag _ _ _›; rw [mq_ag_at hag 97 0 (by decide +kernel)]; omega) | (have hag := ‹mq_ag _ _ _›; rw [mq_ag_at hag 69 0 (by decide +kernel), mq_ag_at hag 76 0 (by decide +kernel)]; assumption) | (have hag := ‹mq_ag _ _ _›; rw [mq_ag_at hag 69 0 (by decide +kernel), mq_ag_at hag 76 0 (by decide +kernel)]; exact hinv) | (have h1 : mq_ag _ μ' _ := (by assumption); simp only [mq_ag_at h1 97 0 (by decide +kernel)] at *; omega) | (have h2 := ‹mq_ag _ _ _›; have h1 : mq_ag _ μ' _ := (by assumption); rw [mq_ag_at h2 97 0 (by decide +kernel), mq_ag_at h1 97 0 (by decide +kernel)]; omega) | (have h2 := ‹mq_ag _ _ _›; have h1 : mq_ag _ μ' _ := (by assumption); rw [mq_ag_at h2 69 0 (by decide +kernel), mq_ag_at h2 76 0 (by decide +kernel), mq_ag_at h1 69 0 (by decide +kernel), mq_ag_at h1 76 0 (by decide +kernel)]; exact hinv) | exact hE | (have hag := ‹mq_ag _ _ _›; exact e46_ag (by decide +kernel) (by decide +kernel) hag hE) | (have h2 := ‹mq_ag _ _ _›; have h1 : mq_ag _ μ' _ := (by assumption); exact e46_ag (by decide +kernel) (by decide +kernel) h2 (e46_ag (by decide +kernel) (by decide +kernel) h1 hE)) | (have h2 := ‹mq_ag _ _ _›; have h1 : mq_ag _ μ' _ := (by assumption); exact e46_keep h1 h2 hE (by assumption) (by assumption) (by assumption) (by assumption) (by assumption) (by assumption) (by decide +kernel) (by decide +kernel) (by decide +kernel)) | (have h1 : mq_ag _ μ' _ := (by assumption); have e9 := e46_back h1 hE (by assumption) (by assumption) (by assumption) (by assumption) (by decide +kernel) (by decide +kernel); omega)
set_option maxHeartbeats 16000000 in
set_option maxRecDepth 100000 in
theorem lq_410 (N : Nat) (l : mq_L) (st : List mq_V) (ρ' : mq_R) (μ' : mq_M) (cs : Nat) (hJ : (match kq_law[12]? with | some q => q.2.2 (N + 1) l st ρ' μ' cs | none => False)) (hbk : mq_bok μ') (hrl : mq_rgl l) : mq_wp mq_fm mq_rg mq_rp pq_law lq_cl lq_md 1084 (fun v _ _ cs => v = 1 ∧ cs ≤ 1084) (mq_KK kq_law N) 400 (mq_seek 410 pq_law) l st ρ' μ' cs := by
  obtain ⟨nw, sp, tl, tx, al⟩ := ρ'
  obtain ⟨i0, l0, rfl, hJ0⟩ := mq_tR_spec hJ
  obtain ⟨l1, rfl, hJ1⟩ := mq_tZ_spec hJ0
  obtain ⟨l2, rfl, hJ2⟩ := mq_tZ_spec hJ1
  obtain ⟨v3, l3, rfl, hJ3⟩ := mq_tI_spec hJ2
  obtain ⟨rfl, hJ4⟩ := mq_t0_spec hJ3
  clear hJ hJ0 hJ1 hJ2 hJ3
  obtain ⟨rfl, rfl, hcs, hc0, hc1, hc2, hc3, hinv, hE, hm0, hm1⟩ := hJ4
  obtain ⟨⟨hl3a, hl3b⟩, -⟩ := hrl
  repeat' (first | refine And.intro ?_ ?_ | intro _)
  all_goals try simp only [Int.reduceToNat, Int.reduceAdd, true_and, and_true, false_and, and_false, false_or, or_false, true_or, or_true, true_implies] at *
  all_goals first | omega | rfl | exact trivial | assumption | (have hag := ‹mq_ag _ _ _›; rw [mq_ag_at hag 97 0 (by decide +kernel)]; omega) | (have hag := ‹mq_ag _ _ _›; rw [mq_ag_at hag 69 0 (by decide +kernel), mq_ag_at hag 76 0 (by decide +kernel)]; assumption) | (have hag := ‹mq_ag _ _ _›; rw [mq_ag_at hag 69 0 (by decide +kernel), mq_ag_at hag 76 0 (by decide +kernel)]; exact hinv) | (have h1 : mq_ag _ μ' _ := (by assumption); simp only [mq_ag_at h1 97 0 (by decide +kernel)] at *; omega) | (have h2 := ‹mq_ag _ _ _›; have h1 : mq_ag _ μ' _ := (by assumption); rw [mq_ag_at h2 97 0 (by decide +kernel), mq_ag_at h1 97 0 (by decide +kernel)]; omega) | (have h2 := ‹mq_ag _ _ _›; have h1 : mq_ag _ μ' _ := (by assumption); rw [mq_ag_at h2 69 0 (by decide +kernel), mq_ag_at h2 76 0 (by decide +kernel), mq_ag_at h1 69 0 (by decide +kernel), mq_ag_at h1 76 0 (by decide +kernel)]; exact hinv) | exact hE | (have hag := ‹mq_ag _ _ _›; exact e46_ag (by decide +kernel) (by decide +kernel) hag hE) | (have h2 := ‹mq_ag _ _ _›; have h1 : mq_ag _ μ' _ := (by assumption); exact e46_ag (by decide +kernel) (by decide +kernel) h2 (e46_ag (by decide +kernel) (by decide +kernel) h1 hE)) | (have h2 := ‹mq_ag _ _ _›; have h1 : mq_ag _ μ' _ := (by assumption); exact e46_keep h1 h2 hE (by assumption) (by assumption) (by assumption) (by assumption) (by assumption) (by assumption) (by decide +kernel) (by decide +kernel) (by decide +kernel)) | (have h1 : mq_ag _ μ' _ := (by assumption); have e9 := e46_back h1 hE (by assumption) (by assumption) (by assumption) (by assumption) (by decide +kernel) (by decide +kernel); omega)
set_option maxHeartbeats 16000000 in
set_option maxRecDepth 100000 in
theorem lq_428 (N : Nat) (l : mq_L) (st : List mq_V) (ρ' : mq_R) (μ' : mq_M) (cs : Nat) (hJ : (match kq_law[13]? with | some q => q.2.2 (N + 1) l st ρ' μ' cs | none => False)) (hbk : mq_bok μ') (hrl : mq_rgl l) : mq_wp mq_fm mq_rg mq_rp pq_law lq_cl lq_md 1084 (fun v _ _ cs => v = 1 ∧ cs ≤ 1084) (mq_KK kq_law N) 400 (mq_seek 428 pq_law) l st ρ' μ' cs := by
  obtain ⟨nw, sp, tl, tx, al⟩ := ρ'
  obtain ⟨i0, l0, rfl, hJ0⟩ := mq_tR_spec hJ
  obtain ⟨l1, rfl, hJ1⟩ := mq_tZ_spec hJ0
  obtain ⟨l2, rfl, hJ2⟩ := mq_tZ_spec hJ1
  obtain ⟨v3, l3, rfl, hJ3⟩ := mq_tI_spec hJ2
  obtain ⟨rfl, hJ4⟩ := mq_t0_spec hJ3
  clear hJ hJ0 hJ1 hJ2 hJ3
  obtain ⟨rfl, rfl, hcs, hc0, hc1, hc2, hc3, hinv, hE, hm0, hm1⟩ := hJ4
  obtain ⟨⟨hl3a, hl3b⟩, -⟩ := hrl
  repeat' (first | refine And.intro ?_ ?_ | intro _)
  all_goals try simp only [Int.reduceToNat, Int.reduceAdd, true_and, and_true, false_and, and_false, false_or, or_false, true_or, or_true, true_implies] at *
  all_goals first | omega | rfl | exact trivial | assumption | (have hag := ‹mq_ag _ _ _›; rw [mq_ag_at hag 97 0 (by decide +kernel)]; omega) | (have hag := ‹mq_ag _ _ _›; rw [mq_ag_at hag 69 0 (by decide +kernel), mq_ag_at hag 76 0 (by decide +kernel)]; assumption) | (have hag := ‹mq_ag _ _ _›; rw [mq_ag_at hag 69 0 (by decide +kernel), mq_ag_at hag 76 0 (by decide +kernel)]; exact hinv) | (have h1 : mq_ag _ μ' _ := (by assumption); simp only [mq_ag_at h1 97 0 (by decide +kernel)] at *; omega) | (have h2 := ‹mq_ag _ _ _›; have h1 : mq_ag _ μ' _ := (by assumption); rw [mq_ag_at h2 97 0 (by decide +kernel), mq_ag_at h1 97 0 (by decide +kernel)]; omega) | (have h2 := ‹mq_ag _ _ _›; have h1 : mq_ag _ μ' _ := (by assumption); rw [mq_ag_at h2 69 0 (by decide +kernel), mq_ag_at h2 76 0 (by decide +kernel), mq_ag_at h1 69 0 (by decide +kernel), mq_ag_at h1 76 0 (by decide +kernel)]; exact hinv) | exact hE | (have hag := ‹mq_ag _ _ _›; exact e46_ag (by decide +kernel) (by decide +kernel) hag hE) | (have h2 := ‹mq_ag _ _ _›; have h1 : mq_ag _ μ' _ := (by assumption); exact e46_ag (by decide +kernel) (by decide +kernel) h2 (e46_ag (by decide +kernel) (by decide +kernel) h1 hE)) | (have h2 := ‹mq_ag _ _ _›; have h1 : mq_ag _ μ' _ := (by assumption); exact e46_keep h1 h2 hE (by assumption) (by assumption) (by assumption) (by assumption) (by assumption) (by assumption) (by decide +kernel) (by decide +kernel) (by decide +kernel)) | (have h1 : mq_ag _ μ' _ := (by assumption); have e9 := e46_back h1 hE (by assumption) (by assumption) (by assumption) (by assumption) (by decide +kernel) (by decide +kernel); omega)
set_option maxHeartbeats 16000000 in
set_option maxRecDepth 100000 in
theorem lq_438 (N : Nat) (l : mq_L) (st : List mq_V) (ρ' : mq_R) (μ' : mq_M) (cs : Nat) (hJ : (match kq_law[14]? with | some q => q.2.2 (N + 1) l st ρ' μ' cs | none => False)) (hbk : mq_bok μ') (hrl : mq_rgl l) : mq_wp mq_fm mq_rg mq_rp pq_law lq_cl lq_md 1084 (fun v _ _ cs => v = 1 ∧ cs ≤ 1084) (mq_KK kq_law N) 400 (mq_seek 438 pq_law) l st ρ' μ' cs := by
  obtain ⟨nw, sp, tl, tx, al⟩ := ρ'
  obtain ⟨i0, l0, rfl, hJ0⟩ := mq_tR_spec hJ
  obtain ⟨l1, rfl, hJ1⟩ := mq_tZ_spec hJ0
  obtain ⟨l2, rfl, hJ2⟩ := mq_tZ_spec hJ1
  obtain ⟨v3, l3, rfl, hJ3⟩ := mq_tI_spec hJ2
  obtain ⟨rfl, hJ4⟩ := mq_t0_spec hJ3
  clear hJ hJ0 hJ1 hJ2 hJ3
  obtain ⟨rfl, rfl, hcs, hc0, hc1, hc2, hc3, hinv, hE, hm0, hm1⟩ := hJ4
  obtain ⟨⟨hl3a, hl3b⟩, -⟩ := hrl
  repeat' (first | refine And.intro ?_ ?_ | intro _)
  all_goals try simp only [Int.reduceToNat, Int.reduceAdd, true_and, and_true, false_and, and_false, false_or, or_false, true_or, or_true, true_implies] at *
  all_goals first | omega | rfl | exact trivial | assumption | (have hag := ‹mq_ag _ _ _›; rw [mq_ag_at hag 97 0 (by decide +kernel)]; omega) | (have hag := ‹mq_ag _ _ _›; rw [mq_ag_at hag 69 0 (by decide +kernel), mq_ag_at hag 76 0 (by decide +kernel)]; assumption) | (have hag := ‹mq_ag _ _ _›; rw [mq_ag_at hag 69 0 (by decide +kernel), mq_ag_at hag 76 0 (by decide +kernel)]; exact hinv) | (have h1 : mq_ag _ μ' _ := (by assumption); simp only [mq_ag_at h1 97 0 (by decide +kernel)] at *; omega) | (have h2 := ‹mq_ag _ _ _›; have h1 : mq_ag _ μ' _ := (by assumption); rw [mq_ag_at h2 97 0 (by decide +kernel), mq_ag_at h1 97 0 (by decide +kernel)]; omega) | (have h2 := ‹mq_ag _ _ _›; have h1 : mq_ag _ μ' _ := (by assumption); rw [mq_ag_at h2 69 0 (by decide +kernel), mq_ag_at h2 76 0 (by decide +kernel), mq_ag_at h1 69 0 (by decide +kernel), mq_ag_at h1 76 0 (by decide +kernel)]; exact hinv) | exact hE | (have hag := ‹mq_ag _ _ _›; exact e46_ag (by decide +kernel) (by decide +kernel) hag hE) | (have h2 := ‹mq_ag _ _ _›; have h1 : mq_ag _ μ' _ := (by assumption); exact e46_ag (by decide +kernel) (by decide +kernel) h2 (e46_ag (by decide +kernel) (by decide +kernel) h1 hE)) | (have h2 := ‹mq_ag _ _ _›; have h1 : mq_ag _ μ' _ := (by assumption); exact e46_keep h1 h2 hE (by assumption) (by assumption) (by assumption) (by assumption) (by assumption) (by assumption) (by decide +kernel) (by decide +kernel) (by decide +kernel)) | (have h1 : mq_ag _ μ' _ := (by assumption); have e9 := e46_back h1 hE (by assumption) (by assumption) (by assumption) (by assumption) (by decide +kernel) (by decide +kernel); omega)
set_option maxHeartbeats 16000000 in
set_option maxRecDepth 100000 in
theorem lq_451 (N : Nat) (l : mq_L) (st : List mq_V) (ρ' : mq_R) (μ' : mq_M) (cs : Nat) (hJ : (match kq_law[15]? with | some q => q.2.2 (N + 1) l st ρ' μ' cs | none => False)) (hbk : mq_bok μ') (hrl : mq_rgl l) : mq_wp mq_fm mq_rg mq_rp pq_law lq_cl lq_md 1084 (fun v _ _ cs => v = 1 ∧ cs ≤ 1084) (mq_KK kq_law N) 400 (mq_seek 451 pq_law) l st ρ' μ' cs := by
  obtain ⟨nw, sp, tl, tx, al⟩ := ρ'
  obtain ⟨i0, l0, rfl, hJ0⟩ := mq_tR_spec hJ
  obtain ⟨l1, rfl, hJ1⟩ := mq_tZ_spec hJ0
  obtain ⟨l2, rfl, hJ2⟩ := mq_tZ_spec hJ1
  obtain ⟨v3, l3, rfl, hJ3⟩ := mq_tI_spec hJ2
  obtain ⟨rfl, hJ4⟩ := mq_t0_spec hJ3
  clear hJ hJ0 hJ1 hJ2 hJ3
  obtain ⟨rfl, rfl, hcs, hc0, hc1, hc2, hc3, hinv, hE, hm0, hm1⟩ := hJ4
  obtain ⟨⟨hl3a, hl3b⟩, -⟩ := hrl
  repeat' (first | refine And.intro ?_ ?_ | intro _)
  all_goals try simp only [Int.reduceToNat, Int.reduceAdd, true_and, and_true, false_and, and_false, false_or, or_false, true_or, or_true, true_implies] at *
  all_goals first | omega | rfl | exact trivial | assumption | (have hag := ‹mq_ag _ _ _›; rw [mq_ag_at hag 97 0 (by decide +kernel)]; omega) | (have hag := ‹mq_ag _ _ _›; rw [mq_ag_at hag 69 0 (by decide +kernel), mq_ag_at hag 76 0 (by decide +kernel)]; assumption) | (have hag := ‹mq_ag _ _ _›; rw [mq_ag_at hag 69 0 (by decide +kernel), mq_ag_at hag 76 0 (by decide +kernel)]; exact hinv) | (have h1 : mq_ag _ μ' _ := (by assumption); simp only [mq_ag_at h1 97 0 (by decide +kernel)] at *; omega) | (have h2 := ‹mq_ag _ _ _›; have h1 : mq_ag _ μ' _ := (by assumption); rw [mq_ag_at h2 97 0 (by decide +kernel), mq_ag_at h1 97 0 (by decide +kernel)]; omega) | (have h2 := ‹mq_ag _ _ _›; have h1 : mq_ag _ μ' _ := (by assumption); rw [mq_ag_at h2 69 0 (by decide +kernel), mq_ag_at h2 76 0 (by decide +kernel), mq_ag_at h1 69 0 (by decide +kernel), mq_ag_at h1 76 0 (by decide +kernel)]; exact hinv) | exact hE | (have hag := ‹mq_ag _ _ _›; exact e46_ag (by decide +kernel) (by decide +kernel) hag hE) | (have h2 := ‹mq_ag _ _ _›; have h1 : mq_ag _ μ' _ := (by assumption); exact e46_ag (by decide +kernel) (by decide +kernel) h2 (e46_ag (by decide +kernel) (by decide +kernel) h1 hE)) | (have h2 := ‹mq_ag _ _ _›; have h1 : mq_ag _ μ' _ := (by assumption); exact e46_keep h1 h2 hE (by assumption) (by assumption) (by assumption) (by assumption) (by assumption) (by assumption) (by decide +kernel) (by decide +kernel) (by decide +kernel)) | (have h1 : mq_ag _ μ' _ := (by assumption); have e9 := e46_back h1 hE (by assumption) (by assumption) (by assumption) (by assumption) (by decide +kernel) (by decide +kernel); omega)
set_option maxHeartbeats 16000000 in
set_option maxRecDepth 100000 in
theorem lq_466 (N : Nat) (l : mq_L) (st : List mq_V) (ρ' : mq_R) (μ' : mq_M) (cs : Nat) (hJ : (match kq_law[16]? with | some q => q.2.2 (N + 1) l st ρ' μ' cs | none => False)) (hbk : mq_bok μ') (hrl : mq_rgl l) : mq_wp mq_fm mq_rg mq_rp pq_law lq_cl lq_md 1084 (fun v _ _ cs => v = 1 ∧ cs ≤ 1084) (mq_KK kq_law N) 400 (mq_seek 466 pq_law) l st ρ' μ' cs := by
  obtain ⟨nw, sp, tl, tx, al⟩ := ρ'
  obtain ⟨i0, l0, rfl, hJ0⟩ := mq_tR_spec hJ
  obtain ⟨l1, rfl, hJ1⟩ := mq_tZ_spec hJ0
  obtain ⟨l2, rfl, hJ2⟩ := mq_tZ_spec hJ1
  obtain ⟨v3, l3, rfl, hJ3⟩ := mq_tI_spec hJ2
  obtain ⟨rfl, hJ4⟩ := mq_t0_spec hJ3
  clear hJ hJ0 hJ1 hJ2 hJ3
  obtain ⟨rfl, rfl, hcs, hc0, hc1, hc2, hc3, hinv, hE, hm0, hm1⟩ := hJ4
  obtain ⟨⟨hl3a, hl3b⟩, -⟩ := hrl
  repeat' (first | refine And.intro ?_ ?_ | intro _)
  all_goals try simp only [Int.reduceToNat, Int.reduceAdd, true_and, and_true, false_and, and_false, false_or, or_false, true_or, or_true, true_implies] at *
  all_goals first | omega | rfl | exact trivial | assumption | (have hag := ‹mq_ag _ _ _›; rw [mq_ag_at hag 97 0 (by decide +kernel)]; omega) | (have hag := ‹mq_ag _ _ _›; rw [mq_ag_at hag 69 0 (by decide +kernel), mq_ag_at hag 76 0 (by decide +kernel)]; assumption) | (have hag := ‹mq_ag _ _ _›; rw [mq_ag_at hag 69 0 (by decide +kernel), mq_ag_at hag 76 0 (by decide +kernel)]; exact hinv) | (have h1 : mq_ag _ μ' _ := (by assumption); simp only [mq_ag_at h1 97 0 (by decide +kernel)] at *; omega) | (have h2 := ‹mq_ag _ _ _›; have h1 : mq_ag _ μ' _ := (by assumption); rw [mq_ag_at h2 97 0 (by decide +kernel), mq_ag_at h1 97 0 (by decide +kernel)]; omega) | (have h2 := ‹mq_ag _ _ _›; have h1 : mq_ag _ μ' _ := (by assumption); rw [mq_ag_at h2 69 0 (by decide +kernel), mq_ag_at h2 76 0 (by decide +kernel), mq_ag_at h1 69 0 (by decide +kernel), mq_ag_at h1 76 0 (by decide +kernel)]; exact hinv) | exact hE | (have hag := ‹mq_ag _ _ _›; exact e46_ag (by decide +kernel) (by decide +kernel) hag hE) | (have h2 := ‹mq_ag _ _ _›; have h1 : mq_ag _ μ' _ := (by assumption); exact e46_ag (by decide +kernel) (by decide +kernel) h2 (e46_ag (by decide +kernel) (by decide +kernel) h1 hE)) | (have h2 := ‹mq_ag _ _ _›; have h1 : mq_ag _ μ' _ := (by assumption); exact e46_keep h1 h2 hE (by assumption) (by assumption) (by assumption) (by assumption) (by assumption) (by assumption) (by decide +kernel) (by decide +kernel) (by decide +kernel)) | (have h1 : mq_ag _ μ' _ := (by assumption); have e9 := e46_back h1 hE (by assumption) (by assumption) (by assumption) (by assumption) (by decide +kernel) (by decide +kernel); omega)
set_option maxHeartbeats 16000000 in
set_option maxRecDepth 100000 in
theorem lq_484 (N : Nat) (l : mq_L) (st : List mq_V) (ρ' : mq_R) (μ' : mq_M) (cs : Nat) (hJ : (match kq_law[17]? with | some q => q.2.2 (N + 1) l st ρ' μ' cs | none => False)) (hbk : mq_bok μ') (hrl : mq_rgl l) : mq_wp mq_fm mq_rg mq_rp pq_law lq_cl lq_md 1084 (fun v _ _ cs => v = 1 ∧ cs ≤ 1084) (mq_KK kq_law N) 400 (mq_seek 484 pq_law) l st ρ' μ' cs := by
  obtain ⟨nw, sp, tl, tx, al⟩ := ρ'
  obtain ⟨i0, l0, rfl, hJ0⟩ := mq_tR_spec hJ
  obtain ⟨l1, rfl, hJ1⟩ := mq_tZ_spec hJ0
  obtain ⟨l2, rfl, hJ2⟩ := mq_tZ_spec hJ1
  obtain ⟨v3, l3, rfl, hJ3⟩ := mq_tI_spec hJ2
  obtain ⟨rfl, hJ4⟩ := mq_t0_spec hJ3
  clear hJ hJ0 hJ1 hJ2 hJ3
  obtain ⟨rfl, rfl, hcs, hc0, hc1, hc2, hc3, hinv, hE, hm0, hm1⟩ := hJ4
  obtain ⟨⟨hl3a, hl3b⟩, -⟩ := hrl
  repeat' (first | refine And.intro ?_ ?_ | intro _)
  all_goals try simp only [Int.reduceToNat, Int.reduceAdd, true_and, and_true, false_and, and_false, false_or, or_false, true_or, or_true, true_implies] at *
  all_goals first | omega | rfl | exact trivial | assumption | (have hag := ‹mq_ag _ _ _›; rw [mq_ag_at hag 97 0 (by decide +kernel)]; omega) | (have hag := ‹mq_ag _ _ _›; rw [mq_ag_at hag 69 0 (by decide +kernel), mq_ag_at hag 76 0 (by decide +kernel)]; assumption) | (have hag := ‹mq_ag _ _ _›; rw [mq_ag_at hag 69 0 (by decide +kernel), mq_ag_at hag 76 0 (by decide +kernel)]; exact hinv) | (have h1 : mq_ag _ μ' _ := (by assumption); simp only [mq_ag_at h1 97 0 (by decide +kernel)] at *; omega) | (have h2 := ‹mq_ag _ _ _›; have h1 : mq_ag _ μ' _ := (by assumption); rw [mq_ag_at h2 97 0 (by decide +kernel), mq_ag_at h1 97 0 (by decide +kernel)]; omega) | (have h2 := ‹mq_ag _ _ _›; have h1 : mq_ag _ μ' _ := (by assumption); rw [mq_ag_at h2 69 0 (by decide +kernel), mq_ag_at h2 76 0 (by decide +kernel), mq_ag_at h1 69 0 (by decide +kernel), mq_ag_at h1 76 0 (by decide +kernel)]; exact hinv) | exact hE | (have hag := ‹mq_ag _ _ _›; exact e46_ag (by decide +kernel) (by decide +kernel) hag hE) | (have h2 := ‹mq_ag _ _ _›; have h1 : mq_ag _ μ' _ := (by assumption); exact e46_ag (by decide +kernel) (by decide +kernel) h2 (e46_ag (by decide +kernel) (by decide +kernel) h1 hE)) | (have h2 := ‹mq_ag _ _ _›; have h1 : mq_ag _ μ' _ := (by assumption); exact e46_keep h1 h2 hE (by assumption) (by assumption) (by assumption) (by assumption) (by assumption) (by assumption) (by decide +kernel) (by decide +kernel) (by decide +kernel)) | (have h1 : mq_ag _ μ' _ := (by assumption); have e9 := e46_back h1 hE (by assumption) (by assumption) (by assumption) (by assumption) (by decide +kernel) (by decide +kernel); omega)
set_option maxHeartbeats 16000000 in
set_option maxRecDepth 100000 in
theorem lq_499 (N : Nat) (l : mq_L) (st : List mq_V) (ρ' : mq_R) (μ' : mq_M) (cs : Nat) (hJ : (match kq_law[18]? with | some q => q.2.2 (N + 1) l st ρ' μ' cs | none => False)) (hbk : mq_bok μ') (hrl : mq_rgl l) : mq_wp mq_fm mq_rg mq_rp pq_law lq_cl lq_md 1084 (fun v _ _ cs => v = 1 ∧ cs ≤ 1084) (mq_KK kq_law N) 400 (mq_seek 499 pq_law) l st ρ' μ' cs := by
  obtain ⟨nw, sp, tl, tx, al⟩ := ρ'
  obtain ⟨i0, l0, rfl, hJ0⟩ := mq_tR_spec hJ
  obtain ⟨l1, rfl, hJ1⟩ := mq_tZ_spec hJ0
  obtain ⟨l2, rfl, hJ2⟩ := mq_tZ_spec hJ1
  obtain ⟨v3, l3, rfl, hJ3⟩ := mq_tI_spec hJ2
  obtain ⟨rfl, hJ4⟩ := mq_t0_spec hJ3
  clear hJ hJ0 hJ1 hJ2 hJ3
  obtain ⟨rfl, rfl, hcs, hc0, hc1, hc2, hc3, hinv, hE, hm0, hm1⟩ := hJ4
  obtain ⟨⟨hl3a, hl3b⟩, -⟩ := hrl
  repeat' (first | refine And.intro ?_ ?_ | intro _)
  all_goals try simp only [Int.reduceToNat, Int.reduceAdd, true_and, and_true, false_and, and_false, false_or, or_false, true_or, or_true, true_implies] at *
  all_goals first | omega | rfl | exact trivial | assumption | (have hag := ‹mq_ag _ _ _›; rw [mq_ag_at hag 97 0 (by decide +kernel)]; omega) | (have hag := ‹mq_ag _ _ _›; rw [mq_ag_at hag 69 0 (by decide +kernel), mq_ag_at hag 76 0 (by decide +kernel)]; assumption) | (have hag := ‹mq_ag _ _ _›; rw [mq_ag_at hag 69 0 (by decide +kernel), mq_ag_at hag 76 0 (by decide +kernel)]; exact hinv) | (have h1 : mq_ag _ μ' _ := (by assumption); simp only [mq_ag_at h1 97 0 (by decide +kernel)] at *; omega) | (have h2 := ‹mq_ag _ _ _›; have h1 : mq_ag _ μ' _ := (by assumption); rw [mq_ag_at h2 97 0 (by decide +kernel), mq_ag_at h1 97 0 (by decide +kernel)]; omega) | (have h2 := ‹mq_ag _ _ _›; have h1 : mq_ag _ μ' _ := (by assumption); rw [mq_ag_at h2 69 0 (by decide +kernel), mq_ag_at h2 76 0 (by decide +kernel), mq_ag_at h1 69 0 (by decide +kernel), mq_ag_at h1 76 0 (by decide +kernel)]; exact hinv) | exact hE | (have hag := ‹mq_ag _ _ _›; exact e46_ag (by decide +kernel) (by decide +kernel) hag hE) | (have h2 := ‹mq_ag _ _ _›; have h1 : mq_ag _ μ' _ := (by assumption); exact e46_ag (by decide +kernel) (by decide +kernel) h2 (e46_ag (by decide +kernel) (by decide +kernel) h1 hE)) | (have h2 := ‹mq_ag _ _ _›; have h1 : mq_ag _ μ' _ := (by assumption); exact e46_keep h1 h2 hE (by assumption) (by assumption) (by assumption) (by assumption) (by assumption) (by assumption) (by decide +kernel) (by decide +kernel) (by decide +kernel)) | (have h1 : mq_ag _ μ' _ := (by assumption); have e9 := e46_back h1 hE (by assumption) (by assumption) (by assumption) (by assumption) (by decide +kernel) (by decide +kernel); omega)
set_option maxHeartbeats 16000000 in
set_option maxRecDepth 100000 in
theorem lq_517 (N : Nat) (l : mq_L) (st : List mq_V) (ρ' : mq_R) (μ' : mq_M) (cs : Nat) (hJ : (match kq_law[19]? with | some q => q.2.2 (N + 1) l st ρ' μ' cs | none => False)) (hbk : mq_bok μ') (hrl : mq_rgl l) : mq_wp mq_fm mq_rg mq_rp pq_law lq_cl lq_md 1084 (fun v _ _ cs => v = 1 ∧ cs ≤ 1084) (mq_KK kq_law N) 400 (mq_seek 517 pq_law) l st ρ' μ' cs := by
  obtain ⟨nw, sp, tl, tx, al⟩ := ρ'
  obtain ⟨i0, l0, rfl, hJ0⟩ := mq_tR_spec hJ
  obtain ⟨l1, rfl, hJ1⟩ := mq_tZ_spec hJ0
  obtain ⟨l2, rfl, hJ2⟩ := mq_tZ_spec hJ1
  obtain ⟨v3, l3, rfl, hJ3⟩ := mq_tI_spec hJ2
  obtain ⟨rfl, hJ4⟩ := mq_t0_spec hJ3
  clear hJ hJ0 hJ1 hJ2 hJ3
  obtain ⟨rfl, rfl, hcs, hc0, hc1, hc2, hc3, hinv, hE, hm0, hm1⟩ := hJ4
  obtain ⟨⟨hl3a, hl3b⟩, -⟩ := hrl
  repeat' (first | refine And.intro ?_ ?_ | intro _)
  all_goals try simp only [Int.reduceToNat, Int.reduceAdd, true_and, and_true, false_and, and_false, false_or, or_false, true_or, or_true, true_implies] at *
  all_goals first | omega | rfl | exact trivial | assumption | (have hag := ‹mq_ag _ _ _›; rw [mq_ag_at hag 97 0 (by decide +kernel)]; omega) | (have hag := ‹mq_ag _ _ _›; rw [mq_ag_at hag 69 0 (by decide +kernel), mq_ag_at hag 76 0 (by decide +kernel)]; assumption) | (have hag := ‹mq_ag _ _ _›; rw [mq_ag_at hag 69 0 (by decide +kernel), mq_ag_at hag 76 0 (by decide +kernel)]; exact hinv) | (have h1 : mq_ag _ μ' _ := (by assumption); simp only [mq_ag_at h1 97 0 (by decide +kernel)] at *; omega) | (have h2 := ‹mq_ag _ _ _›; have h1 : mq_ag _ μ' _ := (by assumption); rw [mq_ag_at h2 97 0 (by decide +kernel), mq_ag_at h1 97 0 (by decide +kernel)]; omega) | (have h2 := ‹mq_ag _ _ _›; have h1 : mq_ag _ μ' _ := (by assumption); rw [mq_ag_at h2 69 0 (by decide +kernel), mq_ag_at h2 76 0 (by decide +kernel), mq_ag_at h1 69 0 (by decide +kernel), mq_ag_at h1 76 0 (by decide +kernel)]; exact hinv) | exact hE | (have hag := ‹mq_ag _ _ _›; exact e46_ag (by decide +kernel) (by decide +kernel) hag hE) | (have h2 := ‹mq_ag _ _ _›; have h1 : mq_ag _ μ' _ := (by assumption); exact e46_ag (by decide +kernel) (by decide +kernel) h2 (e46_ag (by decide +kernel) (by decide +kernel) h1 hE)) | (have h2 := ‹mq_ag _ _ _›; have h1 : mq_ag _ μ' _ := (by assumption); exact e46_keep h1 h2 hE (by assumption) (by assumption) (by assumption) (by assumption) (by assumption) (by assumption) (by decide +kernel) (by decide +kernel) (by decide +kernel)) | (have h1 : mq_ag _ μ' _ := (by assumption); have e9 := e46_back h1 hE (by assumption) (by assumption) (by assumption) (by assumption) (by decide +kernel) (by decide +kernel); omega)
set_option maxHeartbeats 16000000 in
set_option maxRecDepth 100000 in
theorem lq_532 (N : Nat) (l : mq_L) (st : List mq_V) (ρ' : mq_R) (μ' : mq_M) (cs : Nat) (hJ : (match kq_law[20]? with | some q => q.2.2 (N + 1) l st ρ' μ' cs | none => False)) (hbk : mq_bok μ') (hrl : mq_rgl l) : mq_wp mq_fm mq_rg mq_rp pq_law lq_cl lq_md 1084 (fun v _ _ cs => v = 1 ∧ cs ≤ 1084) (mq_KK kq_law N) 400 (mq_seek 532 pq_law) l st ρ' μ' cs := by
  obtain ⟨nw, sp, tl, tx, al⟩ := ρ'
  obtain ⟨i0, l0, rfl, hJ0⟩ := mq_tR_spec hJ
  obtain ⟨l1, rfl, hJ1⟩ := mq_tZ_spec hJ0
  obtain ⟨l2, rfl, hJ2⟩ := mq_tZ_spec hJ1
  obtain ⟨v3, l3, rfl, hJ3⟩ := mq_tI_spec hJ2
  obtain ⟨rfl, hJ4⟩ := mq_t0_spec hJ3
  clear hJ hJ0 hJ1 hJ2 hJ3
  obtain ⟨rfl, rfl, hcs, hc0, hc1, hc2, hc3, hinv, hE, hm0, hm1⟩ := hJ4
  obtain ⟨⟨hl3a, hl3b⟩, -⟩ := hrl
  repeat' (first | refine And.intro ?_ ?_ | intro _)
  all_goals try simp only [Int.reduceToNat, Int.reduceAdd, true_and, and_true, false_and, and_false, false_or, or_false, true_or, or_true, true_implies] at *
  all_goals first | omega | rfl | exact trivial | assumption | (have hag := ‹mq_ag _ _ _›; rw [mq_ag_at hag 97 0 (by decide +kernel)]; omega) | (have hag := ‹mq_ag _ _ _›; rw [mq_ag_at hag 69 0 (by decide +kernel), mq_ag_at hag 76 0 (by decide +kernel)]; assumption) | (have hag := ‹mq_ag _ _ _›; rw [mq_ag_at hag 69 0 (by decide +kernel), mq_ag_at hag 76 0 (by decide +kernel)]; exact hinv) | (have h1 : mq_ag _ μ' _ := (by assumption); simp only [mq_ag_at h1 97 0 (by decide +kernel)] at *; omega) | (have h2 := ‹mq_ag _ _ _›; have h1 : mq_ag _ μ' _ := (by assumption); rw [mq_ag_at h2 97 0 (by decide +kernel), mq_ag_at h1 97 0 (by decide +kernel)]; omega) | (have h2 := ‹mq_ag _ _ _›; have h1 : mq_ag _ μ' _ := (by assumption); rw [mq_ag_at h2 69 0 (by decide +kernel), mq_ag_at h2 76 0 (by decide +kernel), mq_ag_at h1 69 0 (by decide +kernel), mq_ag_at h1 76 0 (by decide +kernel)]; exact hinv) | exact hE | (have hag := ‹mq_ag _ _ _›; exact e46_ag (by decide +kernel) (by decide +kernel) hag hE) | (have h2 := ‹mq_ag _ _ _›; have h1 : mq_ag _ μ' _ := (by assumption); exact e46_ag (by decide +kernel) (by decide +kernel) h2 (e46_ag (by decide +kernel) (by decide +kernel) h1 hE)) | (have h2 := ‹mq_ag _ _ _›; have h1 : mq_ag _ μ' _ := (by assumption); exact e46_keep h1 h2 hE (by assumption) (by assumption) (by assumption) (by assumption) (by assumption) (by assumption) (by decide +kernel) (by decide +kernel) (by decide +kernel)) | (have h1 : mq_ag _ μ' _ := (by assumption); have e9 := e46_back h1 hE (by assumption) (by assumption) (by assumption) (by assumption) (by decide +kernel) (by decide +kernel); omega)
set_option maxHeartbeats 16000000 in
set_option maxRecDepth 100000 in
theorem lq_550 (N : Nat) (l : mq_L) (st : List mq_V) (ρ' : mq_R) (μ' : mq_M) (cs : Nat) (hJ : (match kq_law[21]? with | some q => q.2.2 (N + 1) l st ρ' μ' cs | none => False)) (hbk : mq_bok μ') (hrl : mq_rgl l) : mq_wp mq_fm mq_rg mq_rp pq_law lq_cl lq_md 1084 (fun v _ _ cs => v = 1 ∧ cs ≤ 1084) (mq_KK kq_law N) 400 (mq_seek 550 pq_law) l st ρ' μ' cs := by
  obtain ⟨nw, sp, tl, tx, al⟩ := ρ'
  obtain ⟨i0, l0, rfl, hJ0⟩ := mq_tR_spec hJ
  obtain ⟨l1, rfl, hJ1⟩ := mq_tZ_spec hJ0
  obtain ⟨l2, rfl, hJ2⟩ := mq_tZ_spec hJ1
  obtain ⟨v3, l3, rfl, hJ3⟩ := mq_tI_spec hJ2
  obtain ⟨rfl, hJ4⟩ := mq_t0_spec hJ3
  clear hJ hJ0 hJ1 hJ2 hJ3
  obtain ⟨rfl, rfl, hcs, hc0, hc1, hc2, hc3, hinv, hE, hm0, hm1⟩ := hJ4
  obtain ⟨⟨hl3a, hl3b⟩, -⟩ := hrl
  repeat' (first | refine And.intro ?_ ?_ | intro _)
  all_goals try simp only [Int.reduceToNat, Int.reduceAdd, true_and, and_true, false_and, and_false, false_or, or_false, true_or, or_true, true_implies] at *
  all_goals first | omega | rfl | exact trivial | assumption | (have hag := ‹mq_ag _ _ _›; rw [mq_ag_at hag 97 0 (by decide +kernel)]; omega) | (have hag := ‹mq_ag _ _ _›; rw [mq_ag_at hag 69 0 (by decide +kernel), mq_ag_at hag 76 0 (by decide +kernel)]; assumption) | (have hag := ‹mq_ag _ _ _›; rw [mq_ag_at hag 69 0 (by decide +kernel), mq_ag_at hag 76 0 (by decide +kernel)]; exact hinv) | (have h1 : mq_ag _ μ' _ := (by assumption); simp only [mq_ag_at h1 97 0 (by decide +kernel)] at *; omega) | (have h2 := ‹mq_ag _ _ _›; have h1 : mq_ag _ μ' _ := (by assumption); rw [mq_ag_at h2 97 0 (by decide +kernel), mq_ag_at h1 97 0 (by decide +kernel)]; omega) | (have h2 := ‹mq_ag _ _ _›; have h1 : mq_ag _ μ' _ := (by assumption); rw [mq_ag_at h2 69 0 (by decide +kernel), mq_ag_at h2 76 0 (by decide +kernel), mq_ag_at h1 69 0 (by decide +kernel), mq_ag_at h1 76 0 (by decide +kernel)]; exact hinv) | exact hE | (have hag := ‹mq_ag _ _ _›; exact e46_ag (by decide +kernel) (by decide +kernel) hag hE) | (have h2 := ‹mq_ag _ _ _›; have h1 : mq_ag _ μ' _ := (by assumption); exact e46_ag (by decide +kernel) (by decide +kernel) h2 (e46_ag (by decide +kernel) (by decide +kernel) h1 hE)) | (have h2 := ‹mq_ag _ _ _›; have h1 : mq_ag _ μ' _ := (by assumption); exact e46_keep h1 h2 hE (by assumption) (by assumption) (by assumption) (by assumption) (by assumption) (by assumption) (by decide +kernel) (by decide +kernel) (by decide +kernel)) | (have h1 : mq_ag _ μ' _ := (by assumption); have e9 := e46_back h1 hE (by assumption) (by assumption) (by assumption) (by assumption) (by decide +kernel) (by decide +kernel); omega)
set_option maxHeartbeats 16000000 in
set_option maxRecDepth 100000 in
theorem lq_580 (N : Nat) (l : mq_L) (st : List mq_V) (ρ' : mq_R) (μ' : mq_M) (cs : Nat) (hJ : (match kq_law[22]? with | some q => q.2.2 (N + 1) l st ρ' μ' cs | none => False)) (hbk : mq_bok μ') (hrl : mq_rgl l) : mq_wp mq_fm mq_rg mq_rp pq_law lq_cl lq_md 1084 (fun v _ _ cs => v = 1 ∧ cs ≤ 1084) (mq_KK kq_law N) 400 (mq_seek 580 pq_law) l st ρ' μ' cs := by
  obtain ⟨nw, sp, tl, tx, al⟩ := ρ'
  obtain ⟨i0, l0, rfl, hJ0⟩ := mq_tR_spec hJ
  obtain ⟨l1, rfl, hJ1⟩ := mq_tZ_spec hJ0
  obtain ⟨l2, rfl, hJ2⟩ := mq_tZ_spec hJ1
  obtain ⟨v3, l3, rfl, hJ3⟩ := mq_tI_spec hJ2
  obtain ⟨rfl, hJ4⟩ := mq_t0_spec hJ3
  clear hJ hJ0 hJ1 hJ2 hJ3
  obtain ⟨rfl, rfl, hcs, hc0, hc1, hc2, hc3, hinv, hE, hm0, hm1⟩ := hJ4
  obtain ⟨⟨hl3a, hl3b⟩, -⟩ := hrl
  repeat' (first | refine And.intro ?_ ?_ | intro _)
  all_goals try simp only [Int.reduceToNat, Int.reduceAdd, true_and, and_true, false_and, and_false, false_or, or_false, true_or, or_true, true_implies] at *
  all_goals first | omega | rfl | exact trivial | assumption | (have hag := ‹mq_ag _ _ _›; rw [mq_ag_at hag 97 0 (by decide +kernel)]; omega) | (have hag := ‹mq_ag _ _ _›; rw [mq_ag_at hag 69 0 (by decide +kernel), mq_ag_at hag 76 0 (by decide +kernel)]; assumption) | (have hag := ‹mq_ag _ _ _›; rw [mq_ag_at hag 69 0 (by decide +kernel), mq_ag_at hag 76 0 (by decide +kernel)]; exact hinv) | (have h1 : mq_ag _ μ' _ := (by assumption); simp only [mq_ag_at h1 97 0 (by decide +kernel)] at *; omega) | (have h2 := ‹mq_ag _ _ _›; have h1 : mq_ag _ μ' _ := (by assumption); rw [mq_ag_at h2 97 0 (by decide +kernel), mq_ag_at h1 97 0 (by decide +kernel)]; omega) | (have h2 := ‹mq_ag _ _ _›; have h1 : mq_ag _ μ' _ := (by assumption); rw [mq_ag_at h2 69 0 (by decide +kernel), mq_ag_at h2 76 0 (by decide +kernel), mq_ag_at h1 69 0 (by decide +kernel), mq_ag_at h1 76 0 (by decide +kernel)]; exact hinv) | exact hE | (have hag := ‹mq_ag _ _ _›; exact e46_ag (by decide +kernel) (by decide +kernel) hag hE) | (have h2 := ‹mq_ag _ _ _›; have h1 : mq_ag _ μ' _ := (by assumption); exact e46_ag (by decide +kernel) (by decide +kernel) h2 (e46_ag (by decide +kernel) (by decide +kernel) h1 hE)) | (have h2 := ‹mq_ag _ _ _›; have h1 : mq_ag _ μ' _ := (by assumption); exact e46_keep h1 h2 hE (by assumption) (by assumption) (by assumption) (by assumption) (by assumption) (by assumption) (by decide +kernel) (by decide +kernel) (by decide +kernel)) | (have h1 : mq_ag _ μ' _ := (by assumption); have e9 := e46_back h1 hE (by assumption) (by assumption) (by assumption) (by assumption) (by decide +kernel) (by decide +kernel); omega)
set_option maxHeartbeats 16000000 in
set_option maxRecDepth 100000 in
theorem lq_613 (N : Nat) (l : mq_L) (st : List mq_V) (ρ' : mq_R) (μ' : mq_M) (cs : Nat) (hJ : (match kq_law[23]? with | some q => q.2.2 (N + 1) l st ρ' μ' cs | none => False)) (hbk : mq_bok μ') (hrl : mq_rgl l) : mq_wp mq_fm mq_rg mq_rp pq_law lq_cl lq_md 1084 (fun v _ _ cs => v = 1 ∧ cs ≤ 1084) (mq_KK kq_law N) 400 (mq_seek 613 pq_law) l st ρ' μ' cs := by
  obtain ⟨nw, sp, tl, tx, al⟩ := ρ'
  obtain ⟨i0, l0, rfl, hJ0⟩ := mq_tR_spec hJ
  obtain ⟨l1, rfl, hJ1⟩ := mq_tZ_spec hJ0
  obtain ⟨l2, rfl, hJ2⟩ := mq_tZ_spec hJ1
  obtain ⟨v3, l3, rfl, hJ3⟩ := mq_tI_spec hJ2
  obtain ⟨rfl, hJ4⟩ := mq_t0_spec hJ3
  clear hJ hJ0 hJ1 hJ2 hJ3
  obtain ⟨rfl, rfl, hcs, hc0, hc1, hc2, hc3, hinv, hE, hm0, hm1⟩ := hJ4
  obtain ⟨⟨hl3a, hl3b⟩, -⟩ := hrl
  repeat' (first | refine And.intro ?_ ?_ | intro _)
  all_goals try simp only [Int.reduceToNat, Int.reduceAdd, true_and, and_true, false_and, and_false, false_or, or_false, true_or, or_true, true_implies] at *
  all_goals first | omega | rfl | exact trivial | assumption | (have hag := ‹mq_ag _ _ _›; rw [mq_ag_at hag 97 0 (by decide +kernel)]; omega) | (have hag := ‹mq_ag _ _ _›; rw [mq_ag_at hag 69 0 (by decide +kernel), mq_ag_at hag 76 0 (by decide +kernel)]; assumption) | (have hag := ‹mq_ag _ _ _›; rw [mq_ag_at hag 69 0 (by decide +kernel), mq_ag_at hag 76 0 (by decide +kernel)]; exact hinv) | (have h1 : mq_ag _ μ' _ := (by assumption); simp only [mq_ag_at h1 97 0 (by decide +kernel)] at *; omega) | (have h2 := ‹mq_ag _ _ _›; have h1 : mq_ag _ μ' _ := (by assumption); rw [mq_ag_at h2 97 0 (by decide +kernel), mq_ag_at h1 97 0 (by decide +kernel)]; omega) | (have h2 := ‹mq_ag _ _ _›; have h1 : mq_ag _ μ' _ := (by assumption); rw [mq_ag_at h2 69 0 (by decide +kernel), mq_ag_at h2 76 0 (by decide +kernel), mq_ag_at h1 69 0 (by decide +kernel), mq_ag_at h1 76 0 (by decide +kernel)]; exact hinv) | exact hE | (have hag := ‹mq_ag _ _ _›; exact e46_ag (by decide +kernel) (by decide +kernel) hag hE) | (have h2 := ‹mq_ag _ _ _›; have h1 : mq_ag _ μ' _ := (by assumption); exact e46_ag (by decide +kernel) (by decide +kernel) h2 (e46_ag (by decide +kernel) (by decide +kernel) h1 hE)) | (have h2 := ‹mq_ag _ _ _›; have h1 : mq_ag _ μ' _ := (by assumption); exact e46_keep h1 h2 hE (by assumption) (by assumption) (by assumption) (by assumption) (by assumption) (by assumption) (by decide +kernel) (by decide +kernel) (by decide +kernel)) | (have h1 : mq_ag _ μ' _ := (by assumption); have e9 := e46_back h1 hE (by assumption) (by assumption) (by assumption) (by assumption) (by decide +kernel) (by decide +kernel); omega)
set_option maxHeartbeats 16000000 in
set_option maxRecDepth 100000 in
theorem lq_638 (N : Nat) (l : mq_L) (st : List mq_V) (ρ' : mq_R) (μ' : mq_M) (cs : Nat) (hJ : (match kq_law[24]? with | some q => q.2.2 (N + 1) l st ρ' μ' cs | none => False)) (hbk : mq_bok μ') (hrl : mq_rgl l) : mq_wp mq_fm mq_rg mq_rp pq_law lq_cl lq_md 1084 (fun v _ _ cs => v = 1 ∧ cs ≤ 1084) (mq_KK kq_law N) 400 (mq_seek 638 pq_law) l st ρ' μ' cs := by
  obtain ⟨nw, sp, tl, tx, al⟩ := ρ'
  obtain ⟨i0, l0, rfl, hJ0⟩ := mq_tR_spec hJ
  obtain ⟨l1, rfl, hJ1⟩ := mq_tZ_spec hJ0
  obtain ⟨l2, rfl, hJ2⟩ := mq_tZ_spec hJ1
  obtain ⟨v3, l3, rfl, hJ3⟩ := mq_tI_spec hJ2
  obtain ⟨rfl, hJ4⟩ := mq_t0_spec hJ3
  clear hJ hJ0 hJ1 hJ2 hJ3
  obtain ⟨rfl, rfl, hcs, hc0, hc1, hc2, hc3, hinv, hE, hm0, hm1⟩ := hJ4
  obtain ⟨⟨hl3a, hl3b⟩, -⟩ := hrl
  repeat' (first | refine And.intro ?_ ?_ | intro _)
  all_goals try simp only [Int.reduceToNat, Int.reduceAdd, true_and, and_true, false_and, and_false, false_or, or_false, true_or, or_true, true_implies] at *
  all_goals first | omega | rfl | exact trivial | assumption | (have hag := ‹mq_ag _ _ _›; rw [mq_ag_at hag 97 0 (by decide +kernel)]; omega) | (have hag := ‹mq_ag _ _ _›; rw [mq_ag_at hag 69 0 (by decide +kernel), mq_ag_at hag 76 0 (by decide +kernel)]; assumption) | (have hag := ‹mq_ag _ _ _›; rw [mq_ag_at hag 69 0 (by decide +kernel), mq_ag_at hag 76 0 (by decide +kernel)]; exact hinv) | (have h1 : mq_ag _ μ' _ := (by assumption); simp only [mq_ag_at h1 97 0 (by decide +kernel)] at *; omega) | (have h2 := ‹mq_ag _ _ _›; have h1 : mq_ag _ μ' _ := (by assumption); rw [mq_ag_at h2 97 0 (by decide +kernel), mq_ag_at h1 97 0 (by decide +kernel)]; omega) | (have h2 := ‹mq_ag _ _ _›; have h1 : mq_ag _ μ' _ := (by assumption); rw [mq_ag_at h2 69 0 (by decide +kernel), mq_ag_at h2 76 0 (by decide +kernel), mq_ag_at h1 69 0 (by decide +kernel), mq_ag_at h1 76 0 (by decide +kernel)]; exact hinv) | exact hE | (have hag := ‹mq_ag _ _ _›; exact e46_ag (by decide +kernel) (by decide +kernel) hag hE) | (have h2 := ‹mq_ag _ _ _›; have h1 : mq_ag _ μ' _ := (by assumption); exact e46_ag (by decide +kernel) (by decide +kernel) h2 (e46_ag (by decide +kernel) (by decide +kernel) h1 hE)) | (have h2 := ‹mq_ag _ _ _›; have h1 : mq_ag _ μ' _ := (by assumption); exact e46_keep h1 h2 hE (by assumption) (by assumption) (by assumption) (by assumption) (by assumption) (by assumption) (by decide +kernel) (by decide +kernel) (by decide +kernel)) | (have h1 : mq_ag _ μ' _ := (by assumption); have e9 := e46_back h1 hE (by assumption) (by assumption) (by assumption) (by assumption) (by decide +kernel) (by decide +kernel); omega)
set_option maxHeartbeats 16000000 in
set_option maxRecDepth 100000 in
theorem lq_666 (N : Nat) (l : mq_L) (st : List mq_V) (ρ' : mq_R) (μ' : mq_M) (cs : Nat) (hJ : (match kq_law[25]? with | some q => q.2.2 (N + 1) l st ρ' μ' cs | none => False)) (hbk : mq_bok μ') (hrl : mq_rgl l) : mq_wp mq_fm mq_rg mq_rp pq_law lq_cl lq_md 1084 (fun v _ _ cs => v = 1 ∧ cs ≤ 1084) (mq_KK kq_law N) 400 (mq_seek 666 pq_law) l st ρ' μ' cs := by
  obtain ⟨nw, sp, tl, tx, al⟩ := ρ'
  obtain ⟨i0, l0, rfl, hJ0⟩ := mq_tR_spec hJ
  obtain ⟨l1, rfl, hJ1⟩ := mq_tZ_spec hJ0
  obtain ⟨l2, rfl, hJ2⟩ := mq_tZ_spec hJ1
  obtain ⟨v3, l3, rfl, hJ3⟩ := mq_tI_spec hJ2
  obtain ⟨rfl, hJ4⟩ := mq_t0_spec hJ3
  clear hJ hJ0 hJ1 hJ2 hJ3
  obtain ⟨rfl, rfl, hcs, hc0, hc1, hc2, hc3, hinv, hE, hm0, hm1⟩ := hJ4
  obtain ⟨⟨hl3a, hl3b⟩, -⟩ := hrl
  repeat' (first | refine And.intro ?_ ?_ | intro _)
  all_goals try simp only [Int.reduceToNat, Int.reduceAdd, true_and, and_true, false_and, and_false, false_or, or_false, true_or, or_true, true_implies] at *
  all_goals first | omega | rfl | exact trivial | assumption | (have hag := ‹mq_ag _ _ _›; rw [mq_ag_at hag 97 0 (by decide +kernel)]; omega) | (have hag := ‹mq_ag _ _ _›; rw [mq_ag_at hag 69 0 (by decide +kernel), mq_ag_at hag 76 0 (by decide +kernel)]; assumption) | (have hag := ‹mq_ag _ _ _›; rw [mq_ag_at hag 69 0 (by decide +kernel), mq_ag_at hag 76 0 (by decide +kernel)]; exact hinv) | (have h1 : mq_ag _ μ' _ := (by assumption); simp only [mq_ag_at h1 97 0 (by decide +kernel)] at *; omega) | (have h2 := ‹mq_ag _ _ _›; have h1 : mq_ag _ μ' _ := (by assumption); rw [mq_ag_at h2 97 0 (by decide +kernel), mq_ag_at h1 97 0 (by decide +kernel)]; omega) | (have h2 := ‹mq_ag _ _ _›; have h1 : mq_ag _ μ' _ := (by assumption); rw [mq_ag_at h2 69 0 (by decide +kernel), mq_ag_at h2 76 0 (by decide +kernel), mq_ag_at h1 69 0 (by decide +kernel), mq_ag_at h1 76 0 (by decide +kernel)]; exact hinv) | exact hE | (have hag := ‹mq_ag _ _ _›; exact e46_ag (by decide +kernel) (by decide +kernel) hag hE) | (have h2 := ‹mq_ag _ _ _›; have h1 : mq_ag _ μ' _ := (by assumption); exact e46_ag (by decide +kernel) (by decide +kernel) h2 (e46_ag (by decide +kernel) (by decide +kernel) h1 hE)) | (have h2 := ‹mq_ag _ _ _›; have h1 : mq_ag _ μ' _ := (by assumption); exact e46_keep h1 h2 hE (by assumption) (by assumption) (by assumption) (by assumption) (by assumption) (by assumption) (by decide +kernel) (by decide +kernel) (by decide +kernel)) | (have h1 : mq_ag _ μ' _ := (by assumption); have e9 := e46_back h1 hE (by assumption) (by assumption) (by assumption) (by assumption) (by decide +kernel) (by decide +kernel); omega)
set_option maxHeartbeats 16000000 in
set_option maxRecDepth 100000 in
theorem lq_691 (N : Nat) (l : mq_L) (st : List mq_V) (ρ' : mq_R) (μ' : mq_M) (cs : Nat) (hJ : (match kq_law[26]? with | some q => q.2.2 (N + 1) l st ρ' μ' cs | none => False)) (hbk : mq_bok μ') (hrl : mq_rgl l) : mq_wp mq_fm mq_rg mq_rp pq_law lq_cl lq_md 1084 (fun v _ _ cs => v = 1 ∧ cs ≤ 1084) (mq_KK kq_law N) 400 (mq_seek 691 pq_law) l st ρ' μ' cs := by
  obtain ⟨nw, sp, tl, tx, al⟩ := ρ'
  obtain ⟨i0, l0, rfl, hJ0⟩ := mq_tR_spec hJ
  obtain ⟨l1, rfl, hJ1⟩ := mq_tZ_spec hJ0
  obtain ⟨l2, rfl, hJ2⟩ := mq_tZ_spec hJ1
  obtain ⟨v3, l3, rfl, hJ3⟩ := mq_tI_spec hJ2
  obtain ⟨rfl, hJ4⟩ := mq_t0_spec hJ3
  clear hJ hJ0 hJ1 hJ2 hJ3
  obtain ⟨rfl, rfl, hcs, hc0, hc1, hc2, hc3, hinv, hE, hm0, hm1⟩ := hJ4
  obtain ⟨⟨hl3a, hl3b⟩, -⟩ := hrl
  repeat' (first | refine And.intro ?_ ?_ | intro _)
  all_goals try simp only [Int.reduceToNat, Int.reduceAdd, true_and, and_true, false_and, and_false, false_or, or_false, true_or, or_true, true_implies] at *
  all_goals first | omega | rfl | exact trivial | assumption | (have hag := ‹mq_ag _ _ _›; rw [mq_ag_at hag 97 0 (by decide +kernel)]; omega) | (have hag := ‹mq_ag _ _ _›; rw [mq_ag_at hag 69 0 (by decide +kernel), mq_ag_at hag 76 0 (by decide +kernel)]; assumption) | (have hag := ‹mq_ag _ _ _›; rw [mq_ag_at hag 69 0 (by decide +kernel), mq_ag_at hag 76 0 (by decide +kernel)]; exact hinv) | (have h1 : mq_ag _ μ' _ := (by assumption); simp only [mq_ag_at h1 97 0 (by decide +kernel)] at *; omega) | (have h2 := ‹mq_ag _ _ _›; have h1 : mq_ag _ μ' _ := (by assumption); rw [mq_ag_at h2 97 0 (by decide +kernel), mq_ag_at h1 97 0 (by decide +kernel)]; omega) | (have h2 := ‹mq_ag _ _ _›; have h1 : mq_ag _ μ' _ := (by assumption); rw [mq_ag_at h2 69 0 (by decide +kernel), mq_ag_at h2 76 0 (by decide +kernel), mq_ag_at h1 69 0 (by decide +kernel), mq_ag_at h1 76 0 (by decide +kernel)]; exact hinv) | exact hE | (have hag := ‹mq_ag _ _ _›; exact e46_ag (by decide +kernel) (by decide +kernel) hag hE) | (have h2 := ‹mq_ag _ _ _›; have h1 : mq_ag _ μ' _ := (by assumption); exact e46_ag (by decide +kernel) (by decide +kernel) h2 (e46_ag (by decide +kernel) (by decide +kernel) h1 hE)) | (have h2 := ‹mq_ag _ _ _›; have h1 : mq_ag _ μ' _ := (by assumption); exact e46_keep h1 h2 hE (by assumption) (by assumption) (by assumption) (by assumption) (by assumption) (by assumption) (by decide +kernel) (by decide +kernel) (by decide +kernel)) | (have h1 : mq_ag _ μ' _ := (by assumption); have e9 := e46_back h1 hE (by assumption) (by assumption) (by assumption) (by assumption) (by decide +kernel) (by decide +kernel); omega)
set_option maxHeartbeats 16000000 in
set_option maxRecDepth 100000 in
theorem lq_719 (N : Nat) (l : mq_L) (st : List mq_V) (ρ' : mq_R) (μ' : mq_M) (cs : Nat) (hJ : (match kq_law[27]? with | some q => q.2.2 (N + 1) l st ρ' μ' cs | none => False)) (hbk : mq_bok μ') (hrl : mq_rgl l) : mq_wp mq_fm mq_rg mq_rp pq_law lq_cl lq_md 1084 (fun v _ _ cs => v = 1 ∧ cs ≤ 1084) (mq_KK kq_law N) 400 (mq_seek 719 pq_law) l st ρ' μ' cs := by
  obtain ⟨nw, sp, tl, tx, al⟩ := ρ'
  obtain ⟨i0, l0, rfl, hJ0⟩ := mq_tR_spec hJ
  obtain ⟨l1, rfl, hJ1⟩ := mq_tZ_spec hJ0
  obtain ⟨l2, rfl, hJ2⟩ := mq_tZ_spec hJ1
  obtain ⟨v3, l3, rfl, hJ3⟩ := mq_tI_spec hJ2
  obtain ⟨rfl, hJ4⟩ := mq_t0_spec hJ3
  clear hJ hJ0 hJ1 hJ2 hJ3
  obtain ⟨rfl, rfl, hcs, hc0, hc1, hc2, hc3, hinv, hE, hm0, hm1⟩ := hJ4
  obtain ⟨⟨hl3a, hl3b⟩, -⟩ := hrl
  repeat' (first | refine And.intro ?_ ?_ | intro _)
  all_goals try simp only [Int.reduceToNat, Int.reduceAdd, true_and, and_true, false_and, and_false, false_or, or_false, true_or, or_true, true_implies] at *
  all_goals first | omega | rfl | exact trivial | assumption | (have hag := ‹mq_ag _ _ _›; rw [mq_ag_at hag 97 0 (by decide +kernel)]; omega) | (have hag := ‹mq_ag _ _ _›; rw [mq_ag_at hag 69 0 (by decide +kernel), mq_ag_at hag 76 0 (by decide +kernel)]; assumption) | (have hag := ‹mq_ag _ _ _›; rw [mq_ag_at hag 69 0 (by decide +kernel), mq_ag_at hag 76 0 (by decide +kernel)]; exact hinv) | (have h1 : mq_ag _ μ' _ := (by assumption); simp only [mq_ag_at h1 97 0 (by decide +kernel)] at *; omega) | (have h2 := ‹mq_ag _ _ _›; have h1 : mq_ag _ μ' _ := (by assumption); rw [mq_ag_at h2 97 0 (by decide +kernel), mq_ag_at h1 97 0 (by decide +kernel)]; omega) | (have h2 := ‹mq_ag _ _ _›; have h1 : mq_ag _ μ' _ := (by assumption); rw [mq_ag_at h2 69 0 (by decide +kernel), mq_ag_at h2 76 0 (by decide +kernel), mq_ag_at h1 69 0 (by decide +kernel), mq_ag_at h1 76 0 (by decide +kernel)]; exact hinv) | exact hE | (have hag := ‹mq_ag _ _ _›; exact e46_ag (by decide +kernel) (by decide +kernel) hag hE) | (have h2 := ‹mq_ag _ _ _›; have h1 : mq_ag _ μ' _ := (by assumption); exact e46_ag (by decide +kernel) (by decide +kernel) h2 (e46_ag (by decide +kernel) (by decide +kernel) h1 hE)) | (have h2 := ‹mq_ag _ _ _›; have h1 : mq_ag _ μ' _ := (by assumption); exact e46_keep h1 h2 hE (by assumption) (by assumption) (by assumption) (by assumption) (by assumption) (by assumption) (by decide +kernel) (by decide +kernel) (by decide +kernel)) | (have h1 : mq_ag _ μ' _ := (by assumption); have e9 := e46_back h1 hE (by assumption) (by assumption) (by assumption) (by assumption) (by decide +kernel) (by decide +kernel); omega)
set_option maxHeartbeats 16000000 in
set_option maxRecDepth 100000 in
theorem lq_749 (N : Nat) (l : mq_L) (st : List mq_V) (ρ' : mq_R) (μ' : mq_M) (cs : Nat) (hJ : (match kq_law[28]? with | some q => q.2.2 (N + 1) l st ρ' μ' cs | none => False)) (hbk : mq_bok μ') (hrl : mq_rgl l) : mq_wp mq_fm mq_rg mq_rp pq_law lq_cl lq_md 1084 (fun v _ _ cs => v = 1 ∧ cs ≤ 1084) (mq_KK kq_law N) 400 (mq_seek 749 pq_law) l st ρ' μ' cs := by
  obtain ⟨nw, sp, tl, tx, al⟩ := ρ'
  obtain ⟨i0, l0, rfl, hJ0⟩ := mq_tR_spec hJ
  obtain ⟨l1, rfl, hJ1⟩ := mq_tZ_spec hJ0
  obtain ⟨l2, rfl, hJ2⟩ := mq_tZ_spec hJ1
  obtain ⟨v3, l3, rfl, hJ3⟩ := mq_tI_spec hJ2
  obtain ⟨rfl, hJ4⟩ := mq_t0_spec hJ3
  clear hJ hJ0 hJ1 hJ2 hJ3
  obtain ⟨rfl, rfl, hcs, hc0, hc1, hc2, hc3, hinv, hE, hm0, hm1⟩ := hJ4
  obtain ⟨⟨hl3a, hl3b⟩, -⟩ := hrl
  repeat' (first | refine And.intro ?_ ?_ | intro _)
  all_goals try simp only [Int.reduceToNat, Int.reduceAdd, true_and, and_true, false_and, and_false, false_or, or_false, true_or, or_true, true_implies] at *
  all_goals first | omega | rfl | exact trivial | assumption | (have hag := ‹mq_ag _ _ _›; rw [mq_ag_at hag 97 0 (by decide +kernel)]; omega) | (have hag := ‹mq_ag _ _ _›; rw [mq_ag_at hag 69 0 (by decide +kernel), mq_ag_at hag 76 0 (by decide +kernel)]; assumption) | (have hag := ‹mq_ag _ _ _›; rw [mq_ag_at hag 69 0 (by decide +kernel), mq_ag_at hag 76 0 (by decide +kernel)]; exact hinv) | (have h1 : mq_ag _ μ' _ := (by assumption); simp only [mq_ag_at h1 97 0 (by decide +kernel)] at *; omega) | (have h2 := ‹mq_ag _ _ _›; have h1 : mq_ag _ μ' _ := (by assumption); rw [mq_ag_at h2 97 0 (by decide +kernel), mq_ag_at h1 97 0 (by decide +kernel)]; omega) | (have h2 := ‹mq_ag _ _ _›; have h1 : mq_ag _ μ' _ := (by assumption); rw [mq_ag_at h2 69 0 (by decide +kernel), mq_ag_at h2 76 0 (by decide +kernel), mq_ag_at h1 69 0 (by decide +kernel), mq_ag_at h1 76 0 (by decide +kernel)]; exact hinv) | exact hE | (have hag := ‹mq_ag _ _ _›; exact e46_ag (by decide +kernel) (by decide +kernel) hag hE) | (have h2 := ‹mq_ag _ _ _›; have h1 : mq_ag _ μ' _ := (by assumption); exact e46_ag (by decide +kernel) (by decide +kernel) h2 (e46_ag (by decide +kernel) (by decide +kernel) h1 hE)) | (have h2 := ‹mq_ag _ _ _›; have h1 : mq_ag _ μ' _ := (by assumption); exact e46_keep h1 h2 hE (by assumption) (by assumption) (by assumption) (by assumption) (by assumption) (by assumption) (by decide +kernel) (by decide +kernel) (by decide +kernel)) | (have h1 : mq_ag _ μ' _ := (by assumption); have e9 := e46_back h1 hE (by assumption) (by assumption) (by assumption) (by assumption) (by decide +kernel) (by decide +kernel); omega)
set_option maxHeartbeats 16000000 in
set_option maxRecDepth 100000 in
theorem lq_782 (N : Nat) (l : mq_L) (st : List mq_V) (ρ' : mq_R) (μ' : mq_M) (cs : Nat) (hJ : (match kq_law[29]? with | some q => q.2.2 (N + 1) l st ρ' μ' cs | none => False)) (hbk : mq_bok μ') (hrl : mq_rgl l) : mq_wp mq_fm mq_rg mq_rp pq_law lq_cl lq_md 1084 (fun v _ _ cs => v = 1 ∧ cs ≤ 1084) (mq_KK kq_law N) 400 (mq_seek 782 pq_law) l st ρ' μ' cs := by
  obtain ⟨nw, sp, tl, tx, al⟩ := ρ'
  obtain ⟨i0, l0, rfl, hJ0⟩ := mq_tR_spec hJ
  obtain ⟨l1, rfl, hJ1⟩ := mq_tZ_spec hJ0
  obtain ⟨l2, rfl, hJ2⟩ := mq_tZ_spec hJ1
  obtain ⟨v3, l3, rfl, hJ3⟩ := mq_tI_spec hJ2
  obtain ⟨rfl, hJ4⟩ := mq_t0_spec hJ3
  clear hJ hJ0 hJ1 hJ2 hJ3
  obtain ⟨rfl, rfl, hcs, hc0, hc1, hc2, hc3, hinv, hE, hm0, hm1⟩ := hJ4
  obtain ⟨⟨hl3a, hl3b⟩, -⟩ := hrl
  repeat' (first | refine And.intro ?_ ?_ | intro _)
  all_goals try simp only [Int.reduceToNat, Int.reduceAdd, true_and, and_true, false_and, and_false, false_or, or_false, true_or, or_true, true_implies] at *
  all_goals first | omega | rfl | exact trivial | assumption | (have hag := ‹mq_ag _ _ _›; rw [mq_ag_at hag 97 0 (by decide +kernel)]; omega) | (have hag := ‹mq_ag _ _ _›; rw [mq_ag_at hag 69 0 (by decide +kernel), mq_ag_at hag 76 0 (by decide +kernel)]; assumption) | (have hag := ‹mq_ag _ _ _›; rw [mq_ag_at hag 69 0 (by decide +kernel), mq_ag_at hag 76 0 (by decide +kernel)]; exact hinv) | (have h1 : mq_ag _ μ' _ := (by assumption); simp only [mq_ag_at h1 97 0 (by decide +kernel)] at *; omega) | (have h2 := ‹mq_ag _ _ _›; have h1 : mq_ag _ μ' _ := (by assumption); rw [mq_ag_at h2 97 0 (by decide +kernel), mq_ag_at h1 97 0 (by decide +kernel)]; omega) | (have h2 := ‹mq_ag _ _ _›; have h1 : mq_ag _ μ' _ := (by assumption); rw [mq_ag_at h2 69 0 (by decide +kernel), mq_ag_at h2 76 0 (by decide +kernel), mq_ag_at h1 69 0 (by decide +kernel), mq_ag_at h1 76 0 (by decide +kernel)]; exact hinv) | exact hE | (have hag := ‹mq_ag _ _ _›; exact e46_ag (by decide +kernel) (by decide +kernel) hag hE) | (have h2 := ‹mq_ag _ _ _›; have h1 : mq_ag _ μ' _ := (by assumption); exact e46_ag (by decide +kernel) (by decide +kernel) h2 (e46_ag (by decide +kernel) (by decide +kernel) h1 hE)) | (have h2 := ‹mq_ag _ _ _›; have h1 : mq_ag _ μ' _ := (by assumption); exact e46_keep h1 h2 hE (by assumption) (by assumption) (by assumption) (by assumption) (by assumption) (by assumption) (by decide +kernel) (by decide +kernel) (by decide +kernel)) | (have h1 : mq_ag _ μ' _ := (by assumption); have e9 := e46_back h1 hE (by assumption) (by assumption) (by assumption) (by assumption) (by decide +kernel) (by decide +kernel); omega)
set_option maxHeartbeats 16000000 in
set_option maxRecDepth 100000 in
theorem lq_807 (N : Nat) (l : mq_L) (st : List mq_V) (ρ' : mq_R) (μ' : mq_M) (cs : Nat) (hJ : (match kq_law[30]? with | some q => q.2.2 (N + 1) l st ρ' μ' cs | none => False)) (hbk : mq_bok μ') (hrl : mq_rgl l) : mq_wp mq_fm mq_rg mq_rp pq_law lq_cl lq_md 1084 (fun v _ _ cs => v = 1 ∧ cs ≤ 1084) (mq_KK kq_law N) 400 (mq_seek 807 pq_law) l st ρ' μ' cs := by
  obtain ⟨nw, sp, tl, tx, al⟩ := ρ'
  obtain ⟨i0, l0, rfl, hJ0⟩ := mq_tR_spec hJ
  obtain ⟨l1, rfl, hJ1⟩ := mq_tZ_spec hJ0
  obtain ⟨l2, rfl, hJ2⟩ := mq_tZ_spec hJ1
  obtain ⟨v3, l3, rfl, hJ3⟩ := mq_tI_spec hJ2
  obtain ⟨rfl, hJ4⟩ := mq_t0_spec hJ3
  clear hJ hJ0 hJ1 hJ2 hJ3
  obtain ⟨rfl, rfl, hcs, hc0, hc1, hc2, hc3, hinv, hE, hm0, hm1⟩ := hJ4
  obtain ⟨⟨hl3a, hl3b⟩, -⟩ := hrl
  repeat' (first | refine And.intro ?_ ?_ | intro _)
  all_goals try simp only [Int.reduceToNat, Int.reduceAdd, true_and, and_true, false_and, and_false, false_or, or_false, true_or, or_true, true_implies] at *
  all_goals first | omega | rfl | exact trivial | assumption | (have hag := ‹mq_ag _ _ _›; rw [mq_ag_at hag 97 0 (by decide +kernel)]; omega) | (have hag := ‹mq_ag _ _ _›; rw [mq_ag_at hag 69 0 (by decide +kernel), mq_ag_at hag 76 0 (by decide +kernel)]; assumption) | (have hag := ‹mq_ag _ _ _›; rw [mq_ag_at hag 69 0 (by decide +kernel), mq_ag_at hag 76 0 (by decide +kernel)]; exact hinv) | (have h1 : mq_ag _ μ' _ := (by assumption); simp only [mq_ag_at h1 97 0 (by decide +kernel)] at *; omega) | (have h2 := ‹mq_ag _ _ _›; have h1 : mq_ag _ μ' _ := (by assumption); rw [mq_ag_at h2 97 0 (by decide +kernel), mq_ag_at h1 97 0 (by decide +kernel)]; omega) | (have h2 := ‹mq_ag _ _ _›; have h1 : mq_ag _ μ' _ := (by assumption); rw [mq_ag_at h2 69 0 (by decide +kernel), mq_ag_at h2 76 0 (by decide +kernel), mq_ag_at h1 69 0 (by decide +kernel), mq_ag_at h1 76 0 (by decide +kernel)]; exact hinv) | exact hE | (have hag := ‹mq_ag _ _ _›; exact e46_ag (by decide +kernel) (by decide +kernel) hag hE) | (have h2 := ‹mq_ag _ _ _›; have h1 : mq_ag _ μ' _ := (by assumption); exact e46_ag (by decide +kernel) (by decide +kernel) h2 (e46_ag (by decide +kernel) (by decide +kernel) h1 hE)) | (have h2 := ‹mq_ag _ _ _›; have h1 : mq_ag _ μ' _ := (by assumption); exact e46_keep h1 h2 hE (by assumption) (by assumption) (by assumption) (by assumption) (by assumption) (by assumption) (by decide +kernel) (by decide +kernel) (by decide +kernel)) | (have h1 : mq_ag _ μ' _ := (by assumption); have e9 := e46_back h1 hE (by assumption) (by assumption) (by assumption) (by assumption) (by decide +kernel) (by decide +kernel); omega)
set_option maxHeartbeats 16000000 in
set_option maxRecDepth 100000 in
theorem lq_835 (N : Nat) (l : mq_L) (st : List mq_V) (ρ' : mq_R) (μ' : mq_M) (cs : Nat) (hJ : (match kq_law[31]? with | some q => q.2.2 (N + 1) l st ρ' μ' cs | none => False)) (hbk : mq_bok μ') (hrl : mq_rgl l) : mq_wp mq_fm mq_rg mq_rp pq_law lq_cl lq_md 1084 (fun v _ _ cs => v = 1 ∧ cs ≤ 1084) (mq_KK kq_law N) 400 (mq_seek 835 pq_law) l st ρ' μ' cs := by
  obtain ⟨nw, sp, tl, tx, al⟩ := ρ'
  obtain ⟨i0, l0, rfl, hJ0⟩ := mq_tR_spec hJ
  obtain ⟨l1, rfl, hJ1⟩ := mq_tZ_spec hJ0
  obtain ⟨l2, rfl, hJ2⟩ := mq_tZ_spec hJ1
  obtain ⟨v3, l3, rfl, hJ3⟩ := mq_tI_spec hJ2
  obtain ⟨rfl, hJ4⟩ := mq_t0_spec hJ3
  clear hJ hJ0 hJ1 hJ2 hJ3
  obtain ⟨rfl, rfl, hcs, hc0, hc1, hc2, hc3, hinv, hE, hm0, hm1⟩ := hJ4
  obtain ⟨⟨hl3a, hl3b⟩, -⟩ := hrl
  repeat' (first | refine And.intro ?_ ?_ | intro _)
  all_goals try simp only [Int.reduceToNat, Int.reduceAdd, true_and, and_true, false_and, and_false, false_or, or_false, true_or, or_true, true_implies] at *
  all_goals first | omega | rfl | exact trivial | assumption | (have hag := ‹mq_ag _ _ _›; rw [mq_ag_at hag 97 0 (by decide +kernel)]; omega) | (have hag := ‹mq_ag _ _ _›; rw [mq_ag_at hag 69 0 (by decide +kernel), mq_ag_at hag 76 0 (by decide +kernel)]; assumption) | (have hag := ‹mq_ag _ _ _›; rw [mq_ag_at hag 69 0 (by decide +kernel), mq_ag_at hag 76 0 (by decide +kernel)]; exact hinv) | (have h1 : mq_ag _ μ' _ := (by assumption); simp only [mq_ag_at h1 97 0 (by decide +kernel)] at *; omega) | (have h2 := ‹mq_ag _ _ _›; have h1 : mq_ag _ μ' _ := (by assumption); rw [mq_ag_at h2 97 0 (by decide +kernel), mq_ag_at h1 97 0 (by decide +kernel)]; omega) | (have h2 := ‹mq_ag _ _ _›; have h1 : mq_ag _ μ' _ := (by assumption); rw [mq_ag_at h2 69 0 (by decide +kernel), mq_ag_at h2 76 0 (by decide +kernel), mq_ag_at h1 69 0 (by decide +kernel), mq_ag_at h1 76 0 (by decide +kernel)]; exact hinv) | exact hE | (have hag := ‹mq_ag _ _ _›; exact e46_ag (by decide +kernel) (by decide +kernel) hag hE) | (have h2 := ‹mq_ag _ _ _›; have h1 : mq_ag _ μ' _ := (by assumption); exact e46_ag (by decide +kernel) (by decide +kernel) h2 (e46_ag (by decide +kernel) (by decide +kernel) h1 hE)) | (have h2 := ‹mq_ag _ _ _›; have h1 : mq_ag _ μ' _ := (by assumption); exact e46_keep h1 h2 hE (by assumption) (by assumption) (by assumption) (by assumption) (by assumption) (by assumption) (by decide +kernel) (by decide +kernel) (by decide +kernel)) | (have h1 : mq_ag _ μ' _ := (by assumption); have e9 := e46_back h1 hE (by assumption) (by assumption) (by assumption) (by assumption) (by decide +kernel) (by decide +kernel); omega)
set_option maxHeartbeats 16000000 in
set_option maxRecDepth 100000 in
theorem lq_860 (N : Nat) (l : mq_L) (st : List mq_V) (ρ' : mq_R) (μ' : mq_M) (cs : Nat) (hJ : (match kq_law[32]? with | some q => q.2.2 (N + 1) l st ρ' μ' cs | none => False)) (hbk : mq_bok μ') (hrl : mq_rgl l) : mq_wp mq_fm mq_rg mq_rp pq_law lq_cl lq_md 1084 (fun v _ _ cs => v = 1 ∧ cs ≤ 1084) (mq_KK kq_law N) 400 (mq_seek 860 pq_law) l st ρ' μ' cs := by
  obtain ⟨nw, sp, tl, tx, al⟩ := ρ'
  obtain ⟨i0, l0, rfl, hJ0⟩ := mq_tR_spec hJ
  obtain ⟨l1, rfl, hJ1⟩ := mq_tZ_spec hJ0
  obtain ⟨l2, rfl, hJ2⟩ := mq_tZ_spec hJ1
  obtain ⟨v3, l3, rfl, hJ3⟩ := mq_tI_spec hJ2
  obtain ⟨rfl, hJ4⟩ := mq_t0_spec hJ3
  clear hJ hJ0 hJ1 hJ2 hJ3
  obtain ⟨rfl, rfl, hcs, hc0, hc1, hc2, hc3, hinv, hE, hm0, hm1⟩ := hJ4
  obtain ⟨⟨hl3a, hl3b⟩, -⟩ := hrl
  repeat' (first | refine And.intro ?_ ?_ | intro _)
  all_goals try simp only [Int.reduceToNat, Int.reduceAdd, true_and, and_true, false_and, and_false, false_or, or_false, true_or, or_true, true_implies] at *
  all_goals first | omega | rfl | exact trivial | assumption | (have hag := ‹mq_ag _ _ _›; rw [mq_ag_at hag 97 0 (by decide +kernel)]; omega) | (have hag := ‹mq_ag _ _ _›; rw [mq_ag_at hag 69 0 (by decide +kernel), mq_ag_at hag 76 0 (by decide +kernel)]; assumption) | (have hag := ‹mq_ag _ _ _›; rw [mq_ag_at hag 69 0 (by decide +kernel), mq_ag_at hag 76 0 (by decide +kernel)]; exact hinv) | (have h1 : mq_ag _ μ' _ := (by assumption); simp only [mq_ag_at h1 97 0 (by decide +kernel)] at *; omega) | (have h2 := ‹mq_ag _ _ _›; have h1 : mq_ag _ μ' _ := (by assumption); rw [mq_ag_at h2 97 0 (by decide +kernel), mq_ag_at h1 97 0 (by decide +kernel)]; omega) | (have h2 := ‹mq_ag _ _ _›; have h1 : mq_ag _ μ' _ := (by assumption); rw [mq_ag_at h2 69 0 (by decide +kernel), mq_ag_at h2 76 0 (by decide +kernel), mq_ag_at h1 69 0 (by decide +kernel), mq_ag_at h1 76 0 (by decide +kernel)]; exact hinv) | exact hE | (have hag := ‹mq_ag _ _ _›; exact e46_ag (by decide +kernel) (by decide +kernel) hag hE) | (have h2 := ‹mq_ag _ _ _›; have h1 : mq_ag _ μ' _ := (by assumption); exact e46_ag (by decide +kernel) (by decide +kernel) h2 (e46_ag (by decide +kernel) (by decide +kernel) h1 hE)) | (have h2 := ‹mq_ag _ _ _›; have h1 : mq_ag _ μ' _ := (by assumption); exact e46_keep h1 h2 hE (by assumption) (by assumption) (by assumption) (by assumption) (by assumption) (by assumption) (by decide +kernel) (by decide +kernel) (by decide +kernel)) | (have h1 : mq_ag _ μ' _ := (by assumption); have e9 := e46_back h1 hE (by assumption) (by assumption) (by assumption) (by assumption) (by decide +kernel) (by decide +kernel); omega)
set_option maxHeartbeats 16000000 in
set_option maxRecDepth 100000 in
theorem lq_888 (N : Nat) (l : mq_L) (st : List mq_V) (ρ' : mq_R) (μ' : mq_M) (cs : Nat) (hJ : (match kq_law[33]? with | some q => q.2.2 (N + 1) l st ρ' μ' cs | none => False)) (hbk : mq_bok μ') (hrl : mq_rgl l) : mq_wp mq_fm mq_rg mq_rp pq_law lq_cl lq_md 1084 (fun v _ _ cs => v = 1 ∧ cs ≤ 1084) (mq_KK kq_law N) 400 (mq_seek 888 pq_law) l st ρ' μ' cs := by
  obtain ⟨nw, sp, tl, tx, al⟩ := ρ'
  obtain ⟨i0, l0, rfl, hJ0⟩ := mq_tR_spec hJ
  obtain ⟨l1, rfl, hJ1⟩ := mq_tZ_spec hJ0
  obtain ⟨l2, rfl, hJ2⟩ := mq_tZ_spec hJ1
  obtain ⟨v3, l3, rfl, hJ3⟩ := mq_tI_spec hJ2
  obtain ⟨rfl, hJ4⟩ := mq_t0_spec hJ3
  clear hJ hJ0 hJ1 hJ2 hJ3
  obtain ⟨rfl, rfl, hcs, hc0, hc1, hc2, hc3, hinv, hE, hm0, hm1⟩ := hJ4
  obtain ⟨⟨hl3a, hl3b⟩, -⟩ := hrl
  repeat' (first | refine And.intro ?_ ?_ | intro _)
  all_goals try simp only [Int.reduceToNat, Int.reduceAdd, true_and, and_true, false_and, and_false, false_or, or_false, true_or, or_true, true_implies] at *
  all_goals first | omega | rfl | exact trivial | assumption | (have hag := ‹mq_ag _ _ _›; rw [mq_ag_at hag 97 0 (by decide +kernel)]; omega) | (have hag := ‹mq_ag _ _ _›; rw [mq_ag_at hag 69 0 (by decide +kernel), mq_ag_at hag 76 0 (by decide +kernel)]; assumption) | (have hag := ‹mq_ag _ _ _›; rw [mq_ag_at hag 69 0 (by decide +kernel), mq_ag_at hag 76 0 (by decide +kernel)]; exact hinv) | (have h1 : mq_ag _ μ' _ := (by assumption); simp only [mq_ag_at h1 97 0 (by decide +kernel)] at *; omega) | (have h2 := ‹mq_ag _ _ _›; have h1 : mq_ag _ μ' _ := (by assumption); rw [mq_ag_at h2 97 0 (by decide +kernel), mq_ag_at h1 97 0 (by decide +kernel)]; omega) | (have h2 := ‹mq_ag _ _ _›; have h1 : mq_ag _ μ' _ := (by assumption); rw [mq_ag_at h2 69 0 (by decide +kernel), mq_ag_at h2 76 0 (by decide +kernel), mq_ag_at h1 69 0 (by decide +kernel), mq_ag_at h1 76 0 (by decide +kernel)]; exact hinv) | exact hE | (have hag := ‹mq_ag _ _ _›; exact e46_ag (by decide +kernel) (by decide +kernel) hag hE) | (have h2 := ‹mq_ag _ _ _›; have h1 : mq_ag _ μ' _ := (by assumption); exact e46_ag (by decide +kernel) (by decide +kernel) h2 (e46_ag (by decide +kernel) (by decide +kernel) h1 hE)) | (have h2 := ‹mq_ag _ _ _›; have h1 : mq_ag _ μ' _ := (by assumption); exact e46_keep h1 h2 hE (by assumption) (by assumption) (by assumption) (by assumption) (by assumption) (by assumption) (by decide +kernel) (by decide +kernel) (by decide +kernel)) | (have h1 : mq_ag _ μ' _ := (by assumption); have e9 := e46_back h1 hE (by assumption) (by assumption) (by assumption) (by assumption) (by decide +kernel) (by decide +kernel); omega)
set_option maxHeartbeats 16000000 in
set_option maxRecDepth 100000 in
theorem lq_913 (N : Nat) (l : mq_L) (st : List mq_V) (ρ' : mq_R) (μ' : mq_M) (cs : Nat) (hJ : (match kq_law[34]? with | some q => q.2.2 (N + 1) l st ρ' μ' cs | none => False)) (hbk : mq_bok μ') (hrl : mq_rgl l) : mq_wp mq_fm mq_rg mq_rp pq_law lq_cl lq_md 1084 (fun v _ _ cs => v = 1 ∧ cs ≤ 1084) (mq_KK kq_law N) 400 (mq_seek 913 pq_law) l st ρ' μ' cs := by
  obtain ⟨nw, sp, tl, tx, al⟩ := ρ'
  obtain ⟨i0, l0, rfl, hJ0⟩ := mq_tR_spec hJ
  obtain ⟨l1, rfl, hJ1⟩ := mq_tZ_spec hJ0
  obtain ⟨l2, rfl, hJ2⟩ := mq_tZ_spec hJ1
  obtain ⟨v3, l3, rfl, hJ3⟩ := mq_tI_spec hJ2
  obtain ⟨rfl, hJ4⟩ := mq_t0_spec hJ3
  clear hJ hJ0 hJ1 hJ2 hJ3
  obtain ⟨rfl, rfl, hcs, hc0, hc1, hc2, hc3, hinv, hE, hm0, hm1⟩ := hJ4
  obtain ⟨⟨hl3a, hl3b⟩, -⟩ := hrl
  repeat' (first | refine And.intro ?_ ?_ | intro _)
  all_goals try simp only [Int.reduceToNat, Int.reduceAdd, true_and, and_true, false_and, and_false, false_or, or_false, true_or, or_true, true_implies] at *
  all_goals first | omega | rfl | exact trivial | assumption | (have hag := ‹mq_ag _ _ _›; rw [mq_ag_at hag 97 0 (by decide +kernel)]; omega) | (have hag := ‹mq_ag _ _ _›; rw [mq_ag_at hag 69 0 (by decide +kernel), mq_ag_at hag 76 0 (by decide +kernel)]; assumption) | (have hag := ‹mq_ag _ _ _›; rw [mq_ag_at hag 69 0 (by decide +kernel), mq_ag_at hag 76 0 (by decide +kernel)]; exact hinv) | (have h1 : mq_ag _ μ' _ := (by assumption); simp only [mq_ag_at h1 97 0 (by decide +kernel)] at *; omega) | (have h2 := ‹mq_ag _ _ _›; have h1 : mq_ag _ μ' _ := (by assumption); rw [mq_ag_at h2 97 0 (by decide +kernel), mq_ag_at h1 97 0 (by decide +kernel)]; omega) | (have h2 := ‹mq_ag _ _ _›; have h1 : mq_ag _ μ' _ := (by assumption); rw [mq_ag_at h2 69 0 (by decide +kernel), mq_ag_at h2 76 0 (by decide +kernel), mq_ag_at h1 69 0 (by decide +kernel), mq_ag_at h1 76 0 (by decide +kernel)]; exact hinv) | exact hE | (have hag := ‹mq_ag _ _ _›; exact e46_ag (by decide +kernel) (by decide +kernel) hag hE) | (have h2 := ‹mq_ag _ _ _›; have h1 : mq_ag _ μ' _ := (by assumption); exact e46_ag (by decide +kernel) (by decide +kernel) h2 (e46_ag (by decide +kernel) (by decide +kernel) h1 hE)) | (have h2 := ‹mq_ag _ _ _›; have h1 : mq_ag _ μ' _ := (by assumption); exact e46_keep h1 h2 hE (by assumption) (by assumption) (by assumption) (by assumption) (by assumption) (by assumption) (by decide +kernel) (by decide +kernel) (by decide +kernel)) | (have h1 : mq_ag _ μ' _ := (by assumption); have e9 := e46_back h1 hE (by assumption) (by assumption) (by assumption) (by assumption) (by decide +kernel) (by decide +kernel); omega)
set_option maxHeartbeats 16000000 in
set_option maxRecDepth 100000 in
theorem lq_941 (N : Nat) (l : mq_L) (st : List mq_V) (ρ' : mq_R) (μ' : mq_M) (cs : Nat) (hJ : (match kq_law[35]? with | some q => q.2.2 (N + 1) l st ρ' μ' cs | none => False)) (hbk : mq_bok μ') (hrl : mq_rgl l) : mq_wp mq_fm mq_rg mq_rp pq_law lq_cl lq_md 1084 (fun v _ _ cs => v = 1 ∧ cs ≤ 1084) (mq_KK kq_law N) 400 (mq_seek 941 pq_law) l st ρ' μ' cs := by
  obtain ⟨nw, sp, tl, tx, al⟩ := ρ'
  obtain ⟨i0, l0, rfl, hJ0⟩ := mq_tR_spec hJ
  obtain ⟨l1, rfl, hJ1⟩ := mq_tZ_spec hJ0
  obtain ⟨l2, rfl, hJ2⟩ := mq_tZ_spec hJ1
  obtain ⟨v3, l3, rfl, hJ3⟩ := mq_tI_spec hJ2
  obtain ⟨rfl, hJ4⟩ := mq_t0_spec hJ3
  clear hJ hJ0 hJ1 hJ2 hJ3
  obtain ⟨rfl, rfl, hcs, hc0, hc1, hc2, hc3, hinv, hE, hm0, hm1⟩ := hJ4
  obtain ⟨⟨hl3a, hl3b⟩, -⟩ := hrl
  repeat' (first | refine And.intro ?_ ?_ | intro _)
  all_goals try simp only [Int.reduceToNat, Int.reduceAdd, true_and, and_true, false_and, and_false, false_or, or_false, true_or, or_true, true_implies] at *
  all_goals first | omega | rfl | exact trivial | assumption | (have hag := ‹mq_ag _ _ _›; rw [mq_ag_at hag 97 0 (by decide +kernel)]; omega) | (have hag := ‹mq_ag _ _ _›; rw [mq_ag_at hag 69 0 (by decide +kernel), mq_ag_at hag 76 0 (by decide +kernel)]; assumption) | (have hag := ‹mq_ag _ _ _›; rw [mq_ag_at hag 69 0 (by decide +kernel), mq_ag_at hag 76 0 (by decide +kernel)]; exact hinv) | (have h1 : mq_ag _ μ' _ := (by assumption); simp only [mq_ag_at h1 97 0 (by decide +kernel)] at *; omega) | (have h2 := ‹mq_ag _ _ _›; have h1 : mq_ag _ μ' _ := (by assumption); rw [mq_ag_at h2 97 0 (by decide +kernel), mq_ag_at h1 97 0 (by decide +kernel)]; omega) | (have h2 := ‹mq_ag _ _ _›; have h1 : mq_ag _ μ' _ := (by assumption); rw [mq_ag_at h2 69 0 (by decide +kernel), mq_ag_at h2 76 0 (by decide +kernel), mq_ag_at h1 69 0 (by decide +kernel), mq_ag_at h1 76 0 (by decide +kernel)]; exact hinv) | exact hE | (have hag := ‹mq_ag _ _ _›; exact e46_ag (by decide +kernel) (by decide +kernel) hag hE) | (have h2 := ‹mq_ag _ _ _›; have h1 : mq_ag _ μ' _ := (by assumption); exact e46_ag (by decide +kernel) (by decide +kernel) h2 (e46_ag (by decide +kernel) (by decide +kernel) h1 hE)) | (have h2 := ‹mq_ag _ _ _›; have h1 : mq_ag _ μ' _ := (by assumption); exact e46_keep h1 h2 hE (by assumption) (by assumption) (by assumption) (by assumption) (by assumption) (by assumption) (by decide +kernel) (by decide +kernel) (by decide +kernel)) | (have h1 : mq_ag _ μ' _ := (by assumption); have e9 := e46_back h1 hE (by assumption) (by assumption) (by assumption) (by assumption) (by decide +kernel) (by decide +kernel); omega)
set_option maxHeartbeats 16000000 in
set_option maxRecDepth 100000 in
theorem lq_966 (N : Nat) (l : mq_L) (st : List mq_V) (ρ' : mq_R) (μ' : mq_M) (cs : Nat) (hJ : (match kq_law[36]? with | some q => q.2.2 (N + 1) l st ρ' μ' cs | none => False)) (hbk : mq_bok μ') (hrl : mq_rgl l) : mq_wp mq_fm mq_rg mq_rp pq_law lq_cl lq_md 1084 (fun v _ _ cs => v = 1 ∧ cs ≤ 1084) (mq_KK kq_law N) 400 (mq_seek 966 pq_law) l st ρ' μ' cs := by
  obtain ⟨nw, sp, tl, tx, al⟩ := ρ'
  obtain ⟨i0, l0, rfl, hJ0⟩ := mq_tR_spec hJ
  obtain ⟨l1, rfl, hJ1⟩ := mq_tZ_spec hJ0
  obtain ⟨l2, rfl, hJ2⟩ := mq_tZ_spec hJ1
  obtain ⟨v3, l3, rfl, hJ3⟩ := mq_tI_spec hJ2
  obtain ⟨rfl, hJ4⟩ := mq_t0_spec hJ3
  clear hJ hJ0 hJ1 hJ2 hJ3
  obtain ⟨rfl, rfl, hcs, hc0, hc1, hc2, hc3, hinv, hE, hm0, hm1⟩ := hJ4
  obtain ⟨⟨hl3a, hl3b⟩, -⟩ := hrl
  repeat' (first | refine And.intro ?_ ?_ | intro _)
  all_goals try simp only [Int.reduceToNat, Int.reduceAdd, true_and, and_true, false_and, and_false, false_or, or_false, true_or, or_true, true_implies] at *
  all_goals first | omega | rfl | exact trivial | assumption | (have hag := ‹mq_ag _ _ _›; rw [mq_ag_at hag 97 0 (by decide +kernel)]; omega) | (have hag := ‹mq_ag _ _ _›; rw [mq_ag_at hag 69 0 (by decide +kernel), mq_ag_at hag 76 0 (by decide +kernel)]; assumption) | (have hag := ‹mq_ag _ _ _›; rw [mq_ag_at hag 69 0 (by decide +kernel), mq_ag_at hag 76 0 (by decide +kernel)]; exact hinv) | (have h1 : mq_ag _ μ' _ := (by assumption); simp only [mq_ag_at h1 97 0 (by decide +kernel)] at *; omega) | (have h2 := ‹mq_ag _ _ _›; have h1 : mq_ag _ μ' _ := (by assumption); rw [mq_ag_at h2 97 0 (by decide +kernel), mq_ag_at h1 97 0 (by decide +kernel)]; omega) | (have h2 := ‹mq_ag _ _ _›; have h1 : mq_ag _ μ' _ := (by assumption); rw [mq_ag_at h2 69 0 (by decide +kernel), mq_ag_at h2 76 0 (by decide +kernel), mq_ag_at h1 69 0 (by decide +kernel), mq_ag_at h1 76 0 (by decide +kernel)]; exact hinv) | exact hE | (have hag := ‹mq_ag _ _ _›; exact e46_ag (by decide +kernel) (by decide +kernel) hag hE) | (have h2 := ‹mq_ag _ _ _›; have h1 : mq_ag _ μ' _ := (by assumption); exact e46_ag (by decide +kernel) (by decide +kernel) h2 (e46_ag (by decide +kernel) (by decide +kernel) h1 hE)) | (have h2 := ‹mq_ag _ _ _›; have h1 : mq_ag _ μ' _ := (by assumption); exact e46_keep h1 h2 hE (by assumption) (by assumption) (by assumption) (by assumption) (by assumption) (by assumption) (by decide +kernel) (by decide +kernel) (by decide +kernel)) | (have h1 : mq_ag _ μ' _ := (by assumption); have e9 := e46_back h1 hE (by assumption) (by assumption) (by assumption) (by assumption) (by decide +kernel) (by decide +kernel); omega)
set_option maxHeartbeats 16000000 in
set_option maxRecDepth 100000 in
theorem lq_994 (N : Nat) (l : mq_L) (st : List mq_V) (ρ' : mq_R) (μ' : mq_M) (cs : Nat) (hJ : (match kq_law[37]? with | some q => q.2.2 (N + 1) l st ρ' μ' cs | none => False)) (hbk : mq_bok μ') (hrl : mq_rgl l) : mq_wp mq_fm mq_rg mq_rp pq_law lq_cl lq_md 1084 (fun v _ _ cs => v = 1 ∧ cs ≤ 1084) (mq_KK kq_law N) 400 (mq_seek 994 pq_law) l st ρ' μ' cs := by
  obtain ⟨nw, sp, tl, tx, al⟩ := ρ'
  obtain ⟨i0, l0, rfl, hJ0⟩ := mq_tR_spec hJ
  obtain ⟨l1, rfl, hJ1⟩ := mq_tZ_spec hJ0
  obtain ⟨l2, rfl, hJ2⟩ := mq_tZ_spec hJ1
  obtain ⟨v3, l3, rfl, hJ3⟩ := mq_tI_spec hJ2
  obtain ⟨rfl, hJ4⟩ := mq_t0_spec hJ3
  clear hJ hJ0 hJ1 hJ2 hJ3
  obtain ⟨rfl, rfl, hcs, hc0, hc1, hc2, hc3, hinv, hE, hm0, hm1⟩ := hJ4
  obtain ⟨⟨hl3a, hl3b⟩, -⟩ := hrl
  repeat' (first | refine And.intro ?_ ?_ | intro _)
  all_goals try simp only [Int.reduceToNat, Int.reduceAdd, true_and, and_true, false_and, and_false, false_or, or_false, true_or, or_true, true_implies] at *
  all_goals first | omega | rfl | exact trivial | assumption | (have hag := ‹mq_ag _ _ _›; rw [mq_ag_at hag 97 0 (by decide +kernel)]; omega) | (have hag := ‹mq_ag _ _ _›; rw [mq_ag_at hag 69 0 (by decide +kernel), mq_ag_at hag 76 0 (by decide +kernel)]; assumption) | (have hag := ‹mq_ag _ _ _›; rw [mq_ag_at hag 69 0 (by decide +kernel), mq_ag_at hag 76 0 (by decide +kernel)]; exact hinv) | (have h1 : mq_ag _ μ' _ := (by assumption); simp only [mq_ag_at h1 97 0 (by decide +kernel)] at *; omega) | (have h2 := ‹mq_ag _ _ _›; have h1 : mq_ag _ μ' _ := (by assumption); rw [mq_ag_at h2 97 0 (by decide +kernel), mq_ag_at h1 97 0 (by decide +kernel)]; omega) | (have h2 := ‹mq_ag _ _ _›; have h1 : mq_ag _ μ' _ := (by assumption); rw [mq_ag_at h2 69 0 (by decide +kernel), mq_ag_at h2 76 0 (by decide +kernel), mq_ag_at h1 69 0 (by decide +kernel), mq_ag_at h1 76 0 (by decide +kernel)]; exact hinv) | exact hE | (have hag := ‹mq_ag _ _ _›; exact e46_ag (by decide +kernel) (by decide +kernel) hag hE) | (have h2 := ‹mq_ag _ _ _›; have h1 : mq_ag _ μ' _ := (by assumption); exact e46_ag (by decide +kernel) (by decide +kernel) h2 (e46_ag (by decide +kernel) (by decide +kernel) h1 hE)) | (have h2 := ‹mq_ag _ _ _›; have h1 : mq_ag _ μ' _ := (by assumption); exact e46_keep h1 h2 hE (by assumption) (by assumption) (by assumption) (by assumption) (by assumption) (by assumption) (by decide +kernel) (by decide +kernel) (by decide +kernel)) | (have h1 : mq_ag _ μ' _ := (by assumption); have e9 := e46_back h1 hE (by assumption) (by assumption) (by assumption) (by assumption) (by decide +kernel) (by decide +kernel); omega)
set_option maxHeartbeats 16000000 in
set_option maxRecDepth 100000 in
theorem lq_1019 (N : Nat) (l : mq_L) (st : List mq_V) (ρ' : mq_R) (μ' : mq_M) (cs : Nat) (hJ : (match kq_law[38]? with | some q => q.2.2 (N + 1) l st ρ' μ' cs | none => False)) (hbk : mq_bok μ') (hrl : mq_rgl l) : mq_wp mq_fm mq_rg mq_rp pq_law lq_cl lq_md 1084 (fun v _ _ cs => v = 1 ∧ cs ≤ 1084) (mq_KK kq_law N) 400 (mq_seek 1019 pq_law) l st ρ' μ' cs := by
  obtain ⟨nw, sp, tl, tx, al⟩ := ρ'
  obtain ⟨i0, l0, rfl, hJ0⟩ := mq_tR_spec hJ
  obtain ⟨l1, rfl, hJ1⟩ := mq_tZ_spec hJ0
  obtain ⟨l2, rfl, hJ2⟩ := mq_tZ_spec hJ1
  obtain ⟨v3, l3, rfl, hJ3⟩ := mq_tI_spec hJ2
  obtain ⟨rfl, hJ4⟩ := mq_t0_spec hJ3
  clear hJ hJ0 hJ1 hJ2 hJ3
  obtain ⟨rfl, rfl, hcs, hc0, hc1, hc2, hc3, hinv, hE, hm0, hm1⟩ := hJ4
  obtain ⟨⟨hl3a, hl3b⟩, -⟩ := hrl
  repeat' (first | refine And.intro ?_ ?_ | intro _)
  all_goals try simp only [Int.reduceToNat, Int.reduceAdd, true_and, and_true, false_and, and_false, false_or, or_false, true_or, or_true, true_implies] at *
  all_goals first | omega | rfl | exact trivial | assumption | (have hag := ‹mq_ag _ _ _›; rw [mq_ag_at hag 97 0 (by decide +kernel)]; omega) | (have hag := ‹mq_ag _ _ _›; rw [mq_ag_at hag 69 0 (by decide +kernel), mq_ag_at hag 76 0 (by decide +kernel)]; assumption) | (have hag := ‹mq_ag _ _ _›; rw [mq_ag_at hag 69 0 (by decide +kernel), mq_ag_at hag 76 0 (by decide +kernel)]; exact hinv) | (have h1 : mq_ag _ μ' _ := (by assumption); simp only [mq_ag_at h1 97 0 (by decide +kernel)] at *; omega) | (have h2 := ‹mq_ag _ _ _›; have h1 : mq_ag _ μ' _ := (by assumption); rw [mq_ag_at h2 97 0 (by decide +kernel), mq_ag_at h1 97 0 (by decide +kernel)]; omega) | (have h2 := ‹mq_ag _ _ _›; have h1 : mq_ag _ μ' _ := (by assumption); rw [mq_ag_at h2 69 0 (by decide +kernel), mq_ag_at h2 76 0 (by decide +kernel), mq_ag_at h1 69 0 (by decide +kernel), mq_ag_at h1 76 0 (by decide +kernel)]; exact hinv) | exact hE | (have hag := ‹mq_ag _ _ _›; exact e46_ag (by decide +kernel) (by decide +kernel) hag hE) | (have h2 := ‹mq_ag _ _ _›; have h1 : mq_ag _ μ' _ := (by assumption); exact e46_ag (by decide +kernel) (by decide +kernel) h2 (e46_ag (by decide +kernel) (by decide +kernel) h1 hE)) | (have h2 := ‹mq_ag _ _ _›; have h1 : mq_ag _ μ' _ := (by assumption); exact e46_keep h1 h2 hE (by assumption) (by assumption) (by assumption) (by assumption) (by assumption) (by assumption) (by decide +kernel) (by decide +kernel) (by decide +kernel)) | (have h1 : mq_ag _ μ' _ := (by assumption); have e9 := e46_back h1 hE (by assumption) (by assumption) (by assumption) (by assumption) (by decide +kernel) (by decide +kernel); omega)
set_option maxHeartbeats 16000000 in
set_option maxRecDepth 100000 in
theorem lq_1047 (N : Nat) (l : mq_L) (st : List mq_V) (ρ' : mq_R) (μ' : mq_M) (cs : Nat) (hJ : (match kq_law[39]? with | some q => q.2.2 (N + 1) l st ρ' μ' cs | none => False)) (hbk : mq_bok μ') (hrl : mq_rgl l) : mq_wp mq_fm mq_rg mq_rp pq_law lq_cl lq_md 1084 (fun v _ _ cs => v = 1 ∧ cs ≤ 1084) (mq_KK kq_law N) 400 (mq_seek 1047 pq_law) l st ρ' μ' cs := by
  obtain ⟨nw, sp, tl, tx, al⟩ := ρ'
  obtain ⟨i0, l0, rfl, hJ0⟩ := mq_tR_spec hJ
  obtain ⟨l1, rfl, hJ1⟩ := mq_tZ_spec hJ0
  obtain ⟨l2, rfl, hJ2⟩ := mq_tZ_spec hJ1
  obtain ⟨v3, l3, rfl, hJ3⟩ := mq_tI_spec hJ2
  obtain ⟨rfl, hJ4⟩ := mq_t0_spec hJ3
  clear hJ hJ0 hJ1 hJ2 hJ3
  obtain ⟨rfl, rfl, hcs, hc0, hc1, hc2, hc3, hinv, hE, hm0, hm1⟩ := hJ4
  obtain ⟨⟨hl3a, hl3b⟩, -⟩ := hrl
  repeat' (first | refine And.intro ?_ ?_ | intro _)
  all_goals try simp only [Int.reduceToNat, Int.reduceAdd, true_and, and_true, false_and, and_false, false_or, or_false, true_or, or_true, true_implies] at *
  all_goals first | omega | rfl | exact trivial | assumption | (have hag := ‹mq_ag _ _ _›; rw [mq_ag_at hag 97 0 (by decide +kernel)]; omega) | (have hag := ‹mq_ag _ _ _›; rw [mq_ag_at hag 69 0 (by decide +kernel), mq_ag_at hag 76 0 (by decide +kernel)]; assumption) | (have hag := ‹mq_ag _ _ _›; rw [mq_ag_at hag 69 0 (by decide +kernel), mq_ag_at hag 76 0 (by decide +kernel)]; exact hinv) | (have h1 : mq_ag _ μ' _ := (by assumption); simp only [mq_ag_at h1 97 0 (by decide +kernel)] at *; omega) | (have h2 := ‹mq_ag _ _ _›; have h1 : mq_ag _ μ' _ := (by assumption); rw [mq_ag_at h2 97 0 (by decide +kernel), mq_ag_at h1 97 0 (by decide +kernel)]; omega) | (have h2 := ‹mq_ag _ _ _›; have h1 : mq_ag _ μ' _ := (by assumption); rw [mq_ag_at h2 69 0 (by decide +kernel), mq_ag_at h2 76 0 (by decide +kernel), mq_ag_at h1 69 0 (by decide +kernel), mq_ag_at h1 76 0 (by decide +kernel)]; exact hinv) | exact hE | (have hag := ‹mq_ag _ _ _›; exact e46_ag (by decide +kernel) (by decide +kernel) hag hE) | (have h2 := ‹mq_ag _ _ _›; have h1 : mq_ag _ μ' _ := (by assumption); exact e46_ag (by decide +kernel) (by decide +kernel) h2 (e46_ag (by decide +kernel) (by decide +kernel) h1 hE)) | (have h2 := ‹mq_ag _ _ _›; have h1 : mq_ag _ μ' _ := (by assumption); exact e46_keep h1 h2 hE (by assumption) (by assumption) (by assumption) (by assumption) (by assumption) (by assumption) (by decide +kernel) (by decide +kernel) (by decide +kernel)) | (have h1 : mq_ag _ μ' _ := (by assumption); have e9 := e46_back h1 hE (by assumption) (by assumption) (by assumption) (by assumption) (by decide +kernel) (by decide +kernel); omega)
set_option maxHeartbeats 16000000 in
set_option maxRecDepth 100000 in
theorem lq_1067 (N : Nat) (l : mq_L) (st : List mq_V) (ρ' : mq_R) (μ' : mq_M) (cs : Nat) (hJ : (match kq_law[40]? with | some q => q.2.2 (N + 1) l st ρ' μ' cs | none => False)) (hbk : mq_bok μ') (hrl : mq_rgl l) : mq_wp mq_fm mq_rg mq_rp pq_law lq_cl lq_md 1084 (fun v _ _ cs => v = 1 ∧ cs ≤ 1084) (mq_KK kq_law N) 400 (mq_seek 1067 pq_law) l st ρ' μ' cs := by
  obtain ⟨nw, sp, tl, tx, al⟩ := ρ'
  obtain ⟨i0, l0, rfl, hJ0⟩ := mq_tR_spec hJ
  obtain ⟨l1, rfl, hJ1⟩ := mq_tZ_spec hJ0
  obtain ⟨l2, rfl, hJ2⟩ := mq_tZ_spec hJ1
  obtain ⟨v3, l3, rfl, hJ3⟩ := mq_tI_spec hJ2
  obtain ⟨rfl, hJ4⟩ := mq_t0_spec hJ3
  clear hJ hJ0 hJ1 hJ2 hJ3
  obtain ⟨rfl, rfl, hcs, hc0, hc1, hc2, hc3, hinv, hE, hm0, hm1⟩ := hJ4
  obtain ⟨⟨hl3a, hl3b⟩, -⟩ := hrl
  repeat' (first | refine And.intro ?_ ?_ | intro _)
  all_goals try simp only [Int.reduceToNat, Int.reduceAdd, true_and, and_true, false_and, and_false, false_or, or_false, true_or, or_true, true_implies] at *
  all_goals first | omega | rfl | exact trivial | assumption | (have hag := ‹mq_ag _ _ _›; rw [mq_ag_at hag 97 0 (by decide +kernel)]; omega) | (have hag := ‹mq_ag _ _ _›; rw [mq_ag_at hag 69 0 (by decide +kernel), mq_ag_at hag 76 0 (by decide +kernel)]; assumption) | (have hag := ‹mq_ag _ _ _›; rw [mq_ag_at hag 69 0 (by decide +kernel), mq_ag_at hag 76 0 (by decide +kernel)]; exact hinv) | (have h1 : mq_ag _ μ' _ := (by assumption); simp only [mq_ag_at h1 97 0 (by decide +kernel)] at *; omega) | (have h2 := ‹mq_ag _ _ _›; have h1 : mq_ag _ μ' _ := (by assumption); rw [mq_ag_at h2 97 0 (by decide +kernel), mq_ag_at h1 97 0 (by decide +kernel)]; omega) | (have h2 := ‹mq_ag _ _ _›; have h1 : mq_ag _ μ' _ := (by assumption); rw [mq_ag_at h2 69 0 (by decide +kernel), mq_ag_at h2 76 0 (by decide +kernel), mq_ag_at h1 69 0 (by decide +kernel), mq_ag_at h1 76 0 (by decide +kernel)]; exact hinv) | exact hE | (have hag := ‹mq_ag _ _ _›; exact e46_ag (by decide +kernel) (by decide +kernel) hag hE) | (have h2 := ‹mq_ag _ _ _›; have h1 : mq_ag _ μ' _ := (by assumption); exact e46_ag (by decide +kernel) (by decide +kernel) h2 (e46_ag (by decide +kernel) (by decide +kernel) h1 hE)) | (have h2 := ‹mq_ag _ _ _›; have h1 : mq_ag _ μ' _ := (by assumption); exact e46_keep h1 h2 hE (by assumption) (by assumption) (by assumption) (by assumption) (by assumption) (by assumption) (by decide +kernel) (by decide +kernel) (by decide +kernel)) | (have h1 : mq_ag _ μ' _ := (by assumption); have e9 := e46_back h1 hE (by assumption) (by assumption) (by assumption) (by assumption) (by decide +kernel) (by decide +kernel); omega)
set_option maxHeartbeats 16000000 in
set_option maxRecDepth 100000 in
theorem lq_1090 (N : Nat) (l : mq_L) (st : List mq_V) (ρ' : mq_R) (μ' : mq_M) (cs : Nat) (hJ : (match kq_law[41]? with | some q => q.2.2 (N + 1) l st ρ' μ' cs | none => False)) (hbk : mq_bok μ') (hrl : mq_rgl l) : mq_wp mq_fm mq_rg mq_rp pq_law lq_cl lq_md 1084 (fun v _ _ cs => v = 1 ∧ cs ≤ 1084) (mq_KK kq_law N) 400 (mq_seek 1090 pq_law) l st ρ' μ' cs := by
  obtain ⟨nw, sp, tl, tx, al⟩ := ρ'
  obtain ⟨i0, l0, rfl, hJ0⟩ := mq_tR_spec hJ
  obtain ⟨l1, rfl, hJ1⟩ := mq_tZ_spec hJ0
  obtain ⟨l2, rfl, hJ2⟩ := mq_tZ_spec hJ1
  obtain ⟨v3, l3, rfl, hJ3⟩ := mq_tI_spec hJ2
  obtain ⟨rfl, hJ4⟩ := mq_t0_spec hJ3
  clear hJ hJ0 hJ1 hJ2 hJ3
  obtain ⟨rfl, rfl, hcs, hc0, hc1, hc2, hc3, hinv, hE, hm0, hm1⟩ := hJ4
  obtain ⟨⟨hl3a, hl3b⟩, -⟩ := hrl
  repeat' (first | refine And.intro ?_ ?_ | intro _)
  all_goals try simp only [Int.reduceToNat, Int.reduceAdd, true_and, and_true, false_and, and_false, false_or, or_false, true_or, or_true, true_implies] at *
  all_goals first | omega | rfl | exact trivial | assumption | (have hag := ‹mq_ag _ _ _›; rw [mq_ag_at hag 97 0 (by decide +kernel)]; omega) | (have hag := ‹mq_ag _ _ _›; rw [mq_ag_at hag 69 0 (by decide +kernel), mq_ag_at hag 76 0 (by decide +kernel)]; assumption) | (have hag := ‹mq_ag _ _ _›; rw [mq_ag_at hag 69 0 (by decide +kernel), mq_ag_at hag 76 0 (by decide +kernel)]; exact hinv) | (have h1 : mq_ag _ μ' _ := (by assumption); simp only [mq_ag_at h1 97 0 (by decide +kernel)] at *; omega) | (have h2 := ‹mq_ag _ _ _›; have h1 : mq_ag _ μ' _ := (by assumption); rw [mq_ag_at h2 97 0 (by decide +kernel), mq_ag_at h1 97 0 (by decide +kernel)]; omega) | (have h2 := ‹mq_ag _ _ _›; have h1 : mq_ag _ μ' _ := (by assumption); rw [mq_ag_at h2 69 0 (by decide +kernel), mq_ag_at h2 76 0 (by decide +kernel), mq_ag_at h1 69 0 (by decide +kernel), mq_ag_at h1 76 0 (by decide +kernel)]; exact hinv) | exact hE | (have hag := ‹mq_ag _ _ _›; exact e46_ag (by decide +kernel) (by decide +kernel) hag hE) | (have h2 := ‹mq_ag _ _ _›; have h1 : mq_ag _ μ' _ := (by assumption); exact e46_ag (by decide +kernel) (by decide +kernel) h2 (e46_ag (by decide +kernel) (by decide +kernel) h1 hE)) | (have h2 := ‹mq_ag _ _ _›; have h1 : mq_ag _ μ' _ := (by assumption); exact e46_keep h1 h2 hE (by assumption) (by assumption) (by assumption) (by assumption) (by assumption) (by assumption) (by decide +kernel) (by decide +kernel) (by decide +kernel)) | (have h1 : mq_ag _ μ' _ := (by assumption); have e9 := e46_back h1 hE (by assumption) (by assumption) (by assumption) (by assumption) (by decide +kernel) (by decide +kernel); omega)
set_option maxHeartbeats 16000000 in
set_option maxRecDepth 100000 in
theorem lq_1115 (N : Nat) (l : mq_L) (st : List mq_V) (ρ' : mq_R) (μ' : mq_M) (cs : Nat) (hJ : (match kq_law[42]? with | some q => q.2.2 (N + 1) l st ρ' μ' cs | none => False)) (hbk : mq_bok μ') (hrl : mq_rgl l) : mq_wp mq_fm mq_rg mq_rp pq_law lq_cl lq_md 1084 (fun v _ _ cs => v = 1 ∧ cs ≤ 1084) (mq_KK kq_law N) 400 (mq_seek 1115 pq_law) l st ρ' μ' cs := by
  obtain ⟨nw, sp, tl, tx, al⟩ := ρ'
  obtain ⟨i0, l0, rfl, hJ0⟩ := mq_tR_spec hJ
  obtain ⟨l1, rfl, hJ1⟩ := mq_tZ_spec hJ0
  obtain ⟨l2, rfl, hJ2⟩ := mq_tZ_spec hJ1
  obtain ⟨v3, l3, rfl, hJ3⟩ := mq_tI_spec hJ2
  obtain ⟨rfl, hJ4⟩ := mq_t0_spec hJ3
  clear hJ hJ0 hJ1 hJ2 hJ3
  obtain ⟨rfl, rfl, hcs, hc0, hc1, hc2, hc3, hinv, hE, hm0, hm1⟩ := hJ4
  obtain ⟨⟨hl3a, hl3b⟩, -⟩ := hrl
  repeat' (first | refine And.intro ?_ ?_ | intro _)
  all_goals try simp only [Int.reduceToNat, Int.reduceAdd, true_and, and_true, false_and, and_false, false_or, or_false, true_or, or_true, true_implies] at *
  all_goals first | omega | rfl | exact trivial | assumption | (have hag := ‹mq_ag _ _ _›; rw [mq_ag_at hag 97 0 (by decide +kernel)]; omega) | (have hag := ‹mq_ag _ _ _›; rw [mq_ag_at hag 69 0 (by decide +kernel), mq_ag_at hag 76 0 (by decide +kernel)]; assumption) | (have hag := ‹mq_ag _ _ _›; rw [mq_ag_at hag 69 0 (by decide +kernel), mq_ag_at hag 76 0 (by decide +kernel)]; exact hinv) | (have h1 : mq_ag _ μ' _ := (by assumption); simp only [mq_ag_at h1 97 0 (by decide +kernel)] at *; omega) | (have h2 := ‹mq_ag _ _ _›; have h1 : mq_ag _ μ' _ := (by assumption); rw [mq_ag_at h2 97 0 (by decide +kernel), mq_ag_at h1 97 0 (by decide +kernel)]; omega) | (have h2 := ‹mq_ag _ _ _›; have h1 : mq_ag _ μ' _ := (by assumption); rw [mq_ag_at h2 69 0 (by decide +kernel), mq_ag_at h2 76 0 (by decide +kernel), mq_ag_at h1 69 0 (by decide +kernel), mq_ag_at h1 76 0 (by decide +kernel)]; exact hinv) | exact hE | (have hag := ‹mq_ag _ _ _›; exact e46_ag (by decide +kernel) (by decide +kernel) hag hE) | (have h2 := ‹mq_ag _ _ _›; have h1 : mq_ag _ μ' _ := (by assumption); exact e46_ag (by decide +kernel) (by decide +kernel) h2 (e46_ag (by decide +kernel) (by decide +kernel) h1 hE)) | (have h2 := ‹mq_ag _ _ _›; have h1 : mq_ag _ μ' _ := (by assumption); exact e46_keep h1 h2 hE (by assumption) (by assumption) (by assumption) (by assumption) (by assumption) (by assumption) (by decide +kernel) (by decide +kernel) (by decide +kernel)) | (have h1 : mq_ag _ μ' _ := (by assumption); have e9 := e46_back h1 hE (by assumption) (by assumption) (by assumption) (by assumption) (by decide +kernel) (by decide +kernel); omega)
set_option maxHeartbeats 16000000 in
set_option maxRecDepth 100000 in
theorem lq_1143 (N : Nat) (l : mq_L) (st : List mq_V) (ρ' : mq_R) (μ' : mq_M) (cs : Nat) (hJ : (match kq_law[43]? with | some q => q.2.2 (N + 1) l st ρ' μ' cs | none => False)) (hbk : mq_bok μ') (hrl : mq_rgl l) : mq_wp mq_fm mq_rg mq_rp pq_law lq_cl lq_md 1084 (fun v _ _ cs => v = 1 ∧ cs ≤ 1084) (mq_KK kq_law N) 400 (mq_seek 1143 pq_law) l st ρ' μ' cs := by
  obtain ⟨nw, sp, tl, tx, al⟩ := ρ'
  obtain ⟨i0, l0, rfl, hJ0⟩ := mq_tR_spec hJ
  obtain ⟨l1, rfl, hJ1⟩ := mq_tZ_spec hJ0
  obtain ⟨l2, rfl, hJ2⟩ := mq_tZ_spec hJ1
  obtain ⟨v3, l3, rfl, hJ3⟩ := mq_tI_spec hJ2
  obtain ⟨rfl, hJ4⟩ := mq_t0_spec hJ3
  clear hJ hJ0 hJ1 hJ2 hJ3
  obtain ⟨rfl, rfl, hcs, hc0, hc1, hc2, hc3, hinv, hE, hm0, hm1⟩ := hJ4
  obtain ⟨⟨hl3a, hl3b⟩, -⟩ := hrl
  repeat' (first | refine And.intro ?_ ?_ | intro _)
  all_goals try simp only [Int.reduceToNat, Int.reduceAdd, true_and, and_true, false_and, and_false, false_or, or_false, true_or, or_true, true_implies] at *
  all_goals first | omega | rfl | exact trivial | assumption | (have hag := ‹mq_ag _ _ _›; rw [mq_ag_at hag 97 0 (by decide +kernel)]; omega) | (have hag := ‹mq_ag _ _ _›; rw [mq_ag_at hag 69 0 (by decide +kernel), mq_ag_at hag 76 0 (by decide +kernel)]; assumption) | (have hag := ‹mq_ag _ _ _›; rw [mq_ag_at hag 69 0 (by decide +kernel), mq_ag_at hag 76 0 (by decide +kernel)]; exact hinv) | (have h1 : mq_ag _ μ' _ := (by assumption); simp only [mq_ag_at h1 97 0 (by decide +kernel)] at *; omega) | (have h2 := ‹mq_ag _ _ _›; have h1 : mq_ag _ μ' _ := (by assumption); rw [mq_ag_at h2 97 0 (by decide +kernel), mq_ag_at h1 97 0 (by decide +kernel)]; omega) | (have h2 := ‹mq_ag _ _ _›; have h1 : mq_ag _ μ' _ := (by assumption); rw [mq_ag_at h2 69 0 (by decide +kernel), mq_ag_at h2 76 0 (by decide +kernel), mq_ag_at h1 69 0 (by decide +kernel), mq_ag_at h1 76 0 (by decide +kernel)]; exact hinv) | exact hE | (have hag := ‹mq_ag _ _ _›; exact e46_ag (by decide +kernel) (by decide +kernel) hag hE) | (have h2 := ‹mq_ag _ _ _›; have h1 : mq_ag _ μ' _ := (by assumption); exact e46_ag (by decide +kernel) (by decide +kernel) h2 (e46_ag (by decide +kernel) (by decide +kernel) h1 hE)) | (have h2 := ‹mq_ag _ _ _›; have h1 : mq_ag _ μ' _ := (by assumption); exact e46_keep h1 h2 hE (by assumption) (by assumption) (by assumption) (by assumption) (by assumption) (by assumption) (by decide +kernel) (by decide +kernel) (by decide +kernel)) | (have h1 : mq_ag _ μ' _ := (by assumption); have e9 := e46_back h1 hE (by assumption) (by assumption) (by assumption) (by assumption) (by decide +kernel) (by decide +kernel); omega)
set_option maxHeartbeats 16000000 in
set_option maxRecDepth 100000 in
theorem lq_1158 (N : Nat) (l : mq_L) (st : List mq_V) (ρ' : mq_R) (μ' : mq_M) (cs : Nat) (hJ : (match kq_law[44]? with | some q => q.2.2 (N + 1) l st ρ' μ' cs | none => False)) (hbk : mq_bok μ') (hrl : mq_rgl l) : mq_wp mq_fm mq_rg mq_rp pq_law lq_cl lq_md 1084 (fun v _ _ cs => v = 1 ∧ cs ≤ 1084) (mq_KK kq_law N) 400 (mq_seek 1158 pq_law) l st ρ' μ' cs := by
  obtain ⟨nw, sp, tl, tx, al⟩ := ρ'
  obtain ⟨i0, l0, rfl, hJ0⟩ := mq_tR_spec hJ
  obtain ⟨l1, rfl, hJ1⟩ := mq_tZ_spec hJ0
  obtain ⟨l2, rfl, hJ2⟩ := mq_tZ_spec hJ1
  obtain ⟨v3, l3, rfl, hJ3⟩ := mq_tI_spec hJ2
  obtain ⟨rfl, hJ4⟩ := mq_t0_spec hJ3
  clear hJ hJ0 hJ1 hJ2 hJ3
  obtain ⟨rfl, rfl, hcs, hc0, hc1, hc2, hc3, hinv, hE, hm0, hm1⟩ := hJ4
  obtain ⟨⟨hl3a, hl3b⟩, -⟩ := hrl
  repeat' (first | refine And.intro ?_ ?_ | intro _)
  all_goals try simp only [Int.reduceToNat, Int.reduceAdd, true_and, and_true, false_and, and_false, false_or, or_false, true_or, or_true, true_implies] at *
  all_goals first | omega | rfl | exact trivial | assumption | (have hag := ‹mq_ag _ _ _›; rw [mq_ag_at hag 97 0 (by decide +kernel)]; omega) | (have hag := ‹mq_ag _ _ _›; rw [mq_ag_at hag 69 0 (by decide +kernel), mq_ag_at hag 76 0 (by decide +kernel)]; assumption) | (have hag := ‹mq_ag _ _ _›; rw [mq_ag_at hag 69 0 (by decide +kernel), mq_ag_at hag 76 0 (by decide +kernel)]; exact hinv) | (have h1 : mq_ag _ μ' _ := (by assumption); simp only [mq_ag_at h1 97 0 (by decide +kernel)] at *; omega) | (have h2 := ‹mq_ag _ _ _›; have h1 : mq_ag _ μ' _ := (by assumption); rw [mq_ag_at h2 97 0 (by decide +kernel), mq_ag_at h1 97 0 (by decide +kernel)]; omega) | (have h2 := ‹mq_ag _ _ _›; have h1 : mq_ag _ μ' _ := (by assumption); rw [mq_ag_at h2 69 0 (by decide +kernel), mq_ag_at h2 76 0 (by decide +kernel), mq_ag_at h1 69 0 (by decide +kernel), mq_ag_at h1 76 0 (by decide +kernel)]; exact hinv) | exact hE | (have hag := ‹mq_ag _ _ _›; exact e46_ag (by decide +kernel) (by decide +kernel) hag hE) | (have h2 := ‹mq_ag _ _ _›; have h1 : mq_ag _ μ' _ := (by assumption); exact e46_ag (by decide +kernel) (by decide +kernel) h2 (e46_ag (by decide +kernel) (by decide +kernel) h1 hE)) | (have h2 := ‹mq_ag _ _ _›; have h1 : mq_ag _ μ' _ := (by assumption); exact e46_keep h1 h2 hE (by assumption) (by assumption) (by assumption) (by assumption) (by assumption) (by assumption) (by decide +kernel) (by decide +kernel) (by decide +kernel)) | (have h1 : mq_ag _ μ' _ := (by assumption); have e9 := e46_back h1 hE (by assumption) (by assumption) (by assumption) (by assumption) (by decide +kernel) (by decide +kernel); omega)
set_option maxHeartbeats 16000000 in
set_option maxRecDepth 100000 in
theorem lq_1176 (N : Nat) (l : mq_L) (st : List mq_V) (ρ' : mq_R) (μ' : mq_M) (cs : Nat) (hJ : (match kq_law[45]? with | some q => q.2.2 (N + 1) l st ρ' μ' cs | none => False)) (hbk : mq_bok μ') (hrl : mq_rgl l) : mq_wp mq_fm mq_rg mq_rp pq_law lq_cl lq_md 1084 (fun v _ _ cs => v = 1 ∧ cs ≤ 1084) (mq_KK kq_law N) 400 (mq_seek 1176 pq_law) l st ρ' μ' cs := by
  obtain ⟨nw, sp, tl, tx, al⟩ := ρ'
  obtain ⟨i0, l0, rfl, hJ0⟩ := mq_tR_spec hJ
  obtain ⟨l1, rfl, hJ1⟩ := mq_tZ_spec hJ0
  obtain ⟨l2, rfl, hJ2⟩ := mq_tZ_spec hJ1
  obtain ⟨v3, l3, rfl, hJ3⟩ := mq_tI_spec hJ2
  obtain ⟨rfl, hJ4⟩ := mq_t0_spec hJ3
  clear hJ hJ0 hJ1 hJ2 hJ3
  obtain ⟨rfl, rfl, hcs, hc0, hc1, hc2, hc3, hinv, hE, hm0, hm1⟩ := hJ4
  obtain ⟨⟨hl3a, hl3b⟩, -⟩ := hrl
  repeat' (first | refine And.intro ?_ ?_ | intro _)
  all_goals try simp only [Int.reduceToNat, Int.reduceAdd, true_and, and_true, false_and, and_false, false_or, or_false, true_or, or_true, true_implies] at *
  all_goals first | omega | rfl | exact trivial | assumption | (have hag := ‹mq_ag _ _ _›; rw [mq_ag_at hag 97 0 (by decide +kernel)]; omega) | (have hag := ‹mq_ag _ _ _›; rw [mq_ag_at hag 69 0 (by decide +kernel), mq_ag_at hag 76 0 (by decide +kernel)]; assumption) | (have hag := ‹mq_ag _ _ _›; rw [mq_ag_at hag 69 0 (by decide +kernel), mq_ag_at hag 76 0 (by decide +kernel)]; exact hinv) | (have h1 : mq_ag _ μ' _ := (by assumption); simp only [mq_ag_at h1 97 0 (by decide +kernel)] at *; omega) | (have h2 := ‹mq_ag _ _ _›; have h1 : mq_ag _ μ' _ := (by assumption); rw [mq_ag_at h2 97 0 (by decide +kernel), mq_ag_at h1 97 0 (by decide +kernel)]; omega) | (have h2 := ‹mq_ag _ _ _›; have h1 : mq_ag _ μ' _ := (by assumption); rw [mq_ag_at h2 69 0 (by decide +kernel), mq_ag_at h2 76 0 (by decide +kernel), mq_ag_at h1 69 0 (by decide +kernel), mq_ag_at h1 76 0 (by decide +kernel)]; exact hinv) | exact hE | (have hag := ‹mq_ag _ _ _›; exact e46_ag (by decide +kernel) (by decide +kernel) hag hE) | (have h2 := ‹mq_ag _ _ _›; have h1 : mq_ag _ μ' _ := (by assumption); exact e46_ag (by decide +kernel) (by decide +kernel) h2 (e46_ag (by decide +kernel) (by decide +kernel) h1 hE)) | (have h2 := ‹mq_ag _ _ _›; have h1 : mq_ag _ μ' _ := (by assumption); exact e46_keep h1 h2 hE (by assumption) (by assumption) (by assumption) (by assumption) (by assumption) (by assumption) (by decide +kernel) (by decide +kernel) (by decide +kernel)) | (have h1 : mq_ag _ μ' _ := (by assumption); have e9 := e46_back h1 hE (by assumption) (by assumption) (by assumption) (by assumption) (by decide +kernel) (by decide +kernel); omega)
set_option maxHeartbeats 16000000 in
set_option maxRecDepth 100000 in
theorem lq_1201 (N : Nat) (l : mq_L) (st : List mq_V) (ρ' : mq_R) (μ' : mq_M) (cs : Nat) (hJ : (match kq_law[46]? with | some q => q.2.2 (N + 1) l st ρ' μ' cs | none => False)) (hbk : mq_bok μ') (hrl : mq_rgl l) : mq_wp mq_fm mq_rg mq_rp pq_law lq_cl lq_md 1084 (fun v _ _ cs => v = 1 ∧ cs ≤ 1084) (mq_KK kq_law N) 400 (mq_seek 1201 pq_law) l st ρ' μ' cs := by
  obtain ⟨nw, sp, tl, tx, al⟩ := ρ'
  obtain ⟨i0, l0, rfl, hJ0⟩ := mq_tR_spec hJ
  obtain ⟨l1, rfl, hJ1⟩ := mq_tZ_spec hJ0
  obtain ⟨l2, rfl, hJ2⟩ := mq_tZ_spec hJ1
  obtain ⟨v3, l3, rfl, hJ3⟩ := mq_tI_spec hJ2
  obtain ⟨rfl, hJ4⟩ := mq_t0_spec hJ3
  clear hJ hJ0 hJ1 hJ2 hJ3
  obtain ⟨rfl, rfl, hcs, hc0, hc1, hc2, hc3, hinv, hE, hm0, hm1⟩ := hJ4
  obtain ⟨⟨hl3a, hl3b⟩, -⟩ := hrl
  repeat' (first | refine And.intro ?_ ?_ | intro _)
  all_goals try simp only [Int.reduceToNat, Int.reduceAdd, true_and, and_true, false_and, and_false, false_or, or_false, true_or, or_true, true_implies] at *
  all_goals first | omega | rfl | exact trivial | assumption | (have hag := ‹mq_ag _ _ _›; rw [mq_ag_at hag 97 0 (by decide +kernel)]; omega) | (have hag := ‹mq_ag _ _ _›; rw [mq_ag_at hag 69 0 (by decide +kernel), mq_ag_at hag 76 0 (by decide +kernel)]; assumption) | (have hag := ‹mq_ag _ _ _›; rw [mq_ag_at hag 69 0 (by decide +kernel), mq_ag_at hag 76 0 (by decide +kernel)]; exact hinv) | (have h1 : mq_ag _ μ' _ := (by assumption); simp only [mq_ag_at h1 97 0 (by decide +kernel)] at *; omega) | (have h2 := ‹mq_ag _ _ _›; have h1 : mq_ag _ μ' _ := (by assumption); rw [mq_ag_at h2 97 0 (by decide +kernel), mq_ag_at h1 97 0 (by decide +kernel)]; omega) | (have h2 := ‹mq_ag _ _ _›; have h1 : mq_ag _ μ' _ := (by assumption); rw [mq_ag_at h2 69 0 (by decide +kernel), mq_ag_at h2 76 0 (by decide +kernel), mq_ag_at h1 69 0 (by decide +kernel), mq_ag_at h1 76 0 (by decide +kernel)]; exact hinv) | exact hE | (have hag := ‹mq_ag _ _ _›; exact e46_ag (by decide +kernel) (by decide +kernel) hag hE) | (have h2 := ‹mq_ag _ _ _›; have h1 : mq_ag _ μ' _ := (by assumption); exact e46_ag (by decide +kernel) (by decide +kernel) h2 (e46_ag (by decide +kernel) (by decide +kernel) h1 hE)) | (have h2 := ‹mq_ag _ _ _›; have h1 : mq_ag _ μ' _ := (by assumption); exact e46_keep h1 h2 hE (by assumption) (by assumption) (by assumption) (by assumption) (by assumption) (by assumption) (by decide +kernel) (by decide +kernel) (by decide +kernel)) | (have h1 : mq_ag _ μ' _ := (by assumption); have e9 := e46_back h1 hE (by assumption) (by assumption) (by assumption) (by assumption) (by decide +kernel) (by decide +kernel); omega)
set_option maxHeartbeats 16000000 in
set_option maxRecDepth 100000 in
theorem lq_1229 (N : Nat) (l : mq_L) (st : List mq_V) (ρ' : mq_R) (μ' : mq_M) (cs : Nat) (hJ : (match kq_law[47]? with | some q => q.2.2 (N + 1) l st ρ' μ' cs | none => False)) (hbk : mq_bok μ') (hrl : mq_rgl l) : mq_wp mq_fm mq_rg mq_rp pq_law lq_cl lq_md 1084 (fun v _ _ cs => v = 1 ∧ cs ≤ 1084) (mq_KK kq_law N) 400 (mq_seek 1229 pq_law) l st ρ' μ' cs := by
  obtain ⟨nw, sp, tl, tx, al⟩ := ρ'
  obtain ⟨i0, l0, rfl, hJ0⟩ := mq_tR_spec hJ
  obtain ⟨l1, rfl, hJ1⟩ := mq_tZ_spec hJ0
  obtain ⟨l2, rfl, hJ2⟩ := mq_tZ_spec hJ1
  obtain ⟨v3, l3, rfl, hJ3⟩ := mq_tI_spec hJ2
  obtain ⟨rfl, hJ4⟩ := mq_t0_spec hJ3
  clear hJ hJ0 hJ1 hJ2 hJ3
  obtain ⟨rfl, rfl, hcs, hc0, hc1, hc2, hc3, hinv, hE, hm0, hm1⟩ := hJ4
  obtain ⟨⟨hl3a, hl3b⟩, -⟩ := hrl
  repeat' (first | refine And.intro ?_ ?_ | intro _)
  all_goals try simp only [Int.reduceToNat, Int.reduceAdd, true_and, and_true, false_and, and_false, false_or, or_false, true_or, or_true, true_implies] at *
  all_goals first | omega | rfl | exact trivial | assumption | (have hag := ‹mq_ag _ _ _›; rw [mq_ag_at hag 97 0 (by decide +kernel)]; omega) | (have hag := ‹mq_ag _ _ _›; rw [mq_ag_at hag 69 0 (by decide +kernel), mq_ag_at hag 76 0 (by decide +kernel)]; assumption) | (have hag := ‹mq_ag _ _ _›; rw [mq_ag_at hag 69 0 (by decide +kernel), mq_ag_at hag 76 0 (by decide +kernel)]; exact hinv) | (have h1 : mq_ag _ μ' _ := (by assumption); simp only [mq_ag_at h1 97 0 (by decide +kernel)] at *; omega) | (have h2 := ‹mq_ag _ _ _›; have h1 : mq_ag _ μ' _ := (by assumption); rw [mq_ag_at h2 97 0 (by decide +kernel), mq_ag_at h1 97 0 (by decide +kernel)]; omega) | (have h2 := ‹mq_ag _ _ _›; have h1 : mq_ag _ μ' _ := (by assumption); rw [mq_ag_at h2 69 0 (by decide +kernel), mq_ag_at h2 76 0 (by decide +kernel), mq_ag_at h1 69 0 (by decide +kernel), mq_ag_at h1 76 0 (by decide +kernel)]; exact hinv) | exact hE | (have hag := ‹mq_ag _ _ _›; exact e46_ag (by decide +kernel) (by decide +kernel) hag hE) | (have h2 := ‹mq_ag _ _ _›; have h1 : mq_ag _ μ' _ := (by assumption); exact e46_ag (by decide +kernel) (by decide +kernel) h2 (e46_ag (by decide +kernel) (by decide +kernel) h1 hE)) | (have h2 := ‹mq_ag _ _ _›; have h1 : mq_ag _ μ' _ := (by assumption); exact e46_keep h1 h2 hE (by assumption) (by assumption) (by assumption) (by assumption) (by assumption) (by assumption) (by decide +kernel) (by decide +kernel) (by decide +kernel)) | (have h1 : mq_ag _ μ' _ := (by assumption); have e9 := e46_back h1 hE (by assumption) (by assumption) (by assumption) (by assumption) (by decide +kernel) (by decide +kernel); omega)
set_option maxHeartbeats 16000000 in
set_option maxRecDepth 100000 in
theorem lq_1259 (N : Nat) (l : mq_L) (st : List mq_V) (ρ' : mq_R) (μ' : mq_M) (cs : Nat) (hJ : (match kq_law[48]? with | some q => q.2.2 (N + 1) l st ρ' μ' cs | none => False)) (hbk : mq_bok μ') (hrl : mq_rgl l) : mq_wp mq_fm mq_rg mq_rp pq_law lq_cl lq_md 1084 (fun v _ _ cs => v = 1 ∧ cs ≤ 1084) (mq_KK kq_law N) 400 (mq_seek 1259 pq_law) l st ρ' μ' cs := by
  obtain ⟨nw, sp, tl, tx, al⟩ := ρ'
  obtain ⟨i0, l0, rfl, hJ0⟩ := mq_tR_spec hJ
  obtain ⟨l1, rfl, hJ1⟩ := mq_tZ_spec hJ0
  obtain ⟨l2, rfl, hJ2⟩ := mq_tZ_spec hJ1
  obtain ⟨v3, l3, rfl, hJ3⟩ := mq_tI_spec hJ2
  obtain ⟨rfl, hJ4⟩ := mq_t0_spec hJ3
  clear hJ hJ0 hJ1 hJ2 hJ3
  obtain ⟨rfl, rfl, hcs, hc0, hc1, hc2, hc3, hinv, hE, hm0, hm1⟩ := hJ4
  obtain ⟨⟨hl3a, hl3b⟩, -⟩ := hrl
  repeat' (first | refine And.intro ?_ ?_ | intro _)
  all_goals try simp only [Int.reduceToNat, Int.reduceAdd, true_and, and_true, false_and, and_false, false_or, or_false, true_or, or_true, true_implies] at *
  all_goals first | omega | rfl | exact trivial | assumption | (have hag := ‹mq_ag _ _ _›; rw [mq_ag_at hag 97 0 (by decide +kernel)]; omega) | (have hag := ‹mq_ag _ _ _›; rw [mq_ag_at hag 69 0 (by decide +kernel), mq_ag_at hag 76 0 (by decide +kernel)]; assumption) | (have hag := ‹mq_ag _ _ _›; rw [mq_ag_at hag 69 0 (by decide +kernel), mq_ag_at hag 76 0 (by decide +kernel)]; exact hinv) | (have h1 : mq_ag _ μ' _ := (by assumption); simp only [mq_ag_at h1 97 0 (by decide +kernel)] at *; omega) | (have h2 := ‹mq_ag _ _ _›; have h1 : mq_ag _ μ' _ := (by assumption); rw [mq_ag_at h2 97 0 (by decide +kernel), mq_ag_at h1 97 0 (by decide +kernel)]; omega) | (have h2 := ‹mq_ag _ _ _›; have h1 : mq_ag _ μ' _ := (by assumption); rw [mq_ag_at h2 69 0 (by decide +kernel), mq_ag_at h2 76 0 (by decide +kernel), mq_ag_at h1 69 0 (by decide +kernel), mq_ag_at h1 76 0 (by decide +kernel)]; exact hinv) | exact hE | (have hag := ‹mq_ag _ _ _›; exact e46_ag (by decide +kernel) (by decide +kernel) hag hE) | (have h2 := ‹mq_ag _ _ _›; have h1 : mq_ag _ μ' _ := (by assumption); exact e46_ag (by decide +kernel) (by decide +kernel) h2 (e46_ag (by decide +kernel) (by decide +kernel) h1 hE)) | (have h2 := ‹mq_ag _ _ _›; have h1 : mq_ag _ μ' _ := (by assumption); exact e46_keep h1 h2 hE (by assumption) (by assumption) (by assumption) (by assumption) (by assumption) (by assumption) (by decide +kernel) (by decide +kernel) (by decide +kernel)) | (have h1 : mq_ag _ μ' _ := (by assumption); have e9 := e46_back h1 hE (by assumption) (by assumption) (by assumption) (by assumption) (by decide +kernel) (by decide +kernel); omega)
set_option maxHeartbeats 16000000 in
set_option maxRecDepth 100000 in
theorem lq_1292 (N : Nat) (l : mq_L) (st : List mq_V) (ρ' : mq_R) (μ' : mq_M) (cs : Nat) (hJ : (match kq_law[49]? with | some q => q.2.2 (N + 1) l st ρ' μ' cs | none => False)) (hbk : mq_bok μ') (hrl : mq_rgl l) : mq_wp mq_fm mq_rg mq_rp pq_law lq_cl lq_md 1084 (fun v _ _ cs => v = 1 ∧ cs ≤ 1084) (mq_KK kq_law N) 400 (mq_seek 1292 pq_law) l st ρ' μ' cs := by
  obtain ⟨nw, sp, tl, tx, al⟩ := ρ'
  obtain ⟨i0, l0, rfl, hJ0⟩ := mq_tR_spec hJ
  obtain ⟨l1, rfl, hJ1⟩ := mq_tZ_spec hJ0
  obtain ⟨l2, rfl, hJ2⟩ := mq_tZ_spec hJ1
  obtain ⟨v3, l3, rfl, hJ3⟩ := mq_tI_spec hJ2
  obtain ⟨rfl, hJ4⟩ := mq_t0_spec hJ3
  clear hJ hJ0 hJ1 hJ2 hJ3
  obtain ⟨rfl, rfl, hcs, hc0, hc1, hc2, hc3, hinv, hE, hm0, hm1⟩ := hJ4
  obtain ⟨⟨hl3a, hl3b⟩, -⟩ := hrl
  repeat' (first | refine And.intro ?_ ?_ | intro _)
  all_goals try simp only [Int.reduceToNat, Int.reduceAdd, true_and, and_true, false_and, and_false, false_or, or_false, true_or, or_true, true_implies] at *
  all_goals first | omega | rfl | exact trivial | assumption | (have hag := ‹mq_ag _ _ _›; rw [mq_ag_at hag 97 0 (by decide +kernel)]; omega) | (have hag := ‹mq_ag _ _ _›; rw [mq_ag_at hag 69 0 (by decide +kernel), mq_ag_at hag 76 0 (by decide +kernel)]; assumption) | (have hag := ‹mq_ag _ _ _›; rw [mq_ag_at hag 69 0 (by decide +kernel), mq_ag_at hag 76 0 (by decide +kernel)]; exact hinv) | (have h1 : mq_ag _ μ' _ := (by assumption); simp only [mq_ag_at h1 97 0 (by decide +kernel)] at *; omega) | (have h2 := ‹mq_ag _ _ _›; have h1 : mq_ag _ μ' _ := (by assumption); rw [mq_ag_at h2 97 0 (by decide +kernel), mq_ag_at h1 97 0 (by decide +kernel)]; omega) | (have h2 := ‹mq_ag _ _ _›; have h1 : mq_ag _ μ' _ := (by assumption); rw [mq_ag_at h2 69 0 (by decide +kernel), mq_ag_at h2 76 0 (by decide +kernel), mq_ag_at h1 69 0 (by decide +kernel), mq_ag_at h1 76 0 (by decide +kernel)]; exact hinv) | exact hE | (have hag := ‹mq_ag _ _ _›; exact e46_ag (by decide +kernel) (by decide +kernel) hag hE) | (have h2 := ‹mq_ag _ _ _›; have h1 : mq_ag _ μ' _ := (by assumption); exact e46_ag (by decide +kernel) (by decide +kernel) h2 (e46_ag (by decide +kernel) (by decide +kernel) h1 hE)) | (have h2 := ‹mq_ag _ _ _›; have h1 : mq_ag _ μ' _ := (by assumption); exact e46_keep h1 h2 hE (by assumption) (by assumption) (by assumption) (by assumption) (by assumption) (by assumption) (by decide +kernel) (by decide +kernel) (by decide +kernel)) | (have h1 : mq_ag _ μ' _ := (by assumption); have e9 := e46_back h1 hE (by assumption) (by assumption) (by assumption) (by assumption) (by decide +kernel) (by decide +kernel); omega)
set_option maxHeartbeats 16000000 in
set_option maxRecDepth 100000 in
theorem lq_1312 (N : Nat) (l : mq_L) (st : List mq_V) (ρ' : mq_R) (μ' : mq_M) (cs : Nat) (hJ : (match kq_law[50]? with | some q => q.2.2 (N + 1) l st ρ' μ' cs | none => False)) (hbk : mq_bok μ') (hrl : mq_rgl l) : mq_wp mq_fm mq_rg mq_rp pq_law lq_cl lq_md 1084 (fun v _ _ cs => v = 1 ∧ cs ≤ 1084) (mq_KK kq_law N) 400 (mq_seek 1312 pq_law) l st ρ' μ' cs := by
  obtain ⟨nw, sp, tl, tx, al⟩ := ρ'
  obtain ⟨i0, l0, rfl, hJ0⟩ := mq_tR_spec hJ
  obtain ⟨l1, rfl, hJ1⟩ := mq_tZ_spec hJ0
  obtain ⟨l2, rfl, hJ2⟩ := mq_tZ_spec hJ1
  obtain ⟨v3, l3, rfl, hJ3⟩ := mq_tI_spec hJ2
  obtain ⟨rfl, hJ4⟩ := mq_t0_spec hJ3
  clear hJ hJ0 hJ1 hJ2 hJ3
  obtain ⟨rfl, rfl, hcs, hc0, hc1, hc2, hc3, hinv, hE, hm0, hm1⟩ := hJ4
  obtain ⟨⟨hl3a, hl3b⟩, -⟩ := hrl
  repeat' (first | refine And.intro ?_ ?_ | intro _)
  all_goals try simp only [Int.reduceToNat, Int.reduceAdd, true_and, and_true, false_and, and_false, false_or, or_false, true_or, or_true, true_implies] at *
  all_goals first | omega | rfl | exact trivial | assumption | (have hag := ‹mq_ag _ _ _›; rw [mq_ag_at hag 97 0 (by decide +kernel)]; omega) | (have hag := ‹mq_ag _ _ _›; rw [mq_ag_at hag 69 0 (by decide +kernel), mq_ag_at hag 76 0 (by decide +kernel)]; assumption) | (have hag := ‹mq_ag _ _ _›; rw [mq_ag_at hag 69 0 (by decide +kernel), mq_ag_at hag 76 0 (by decide +kernel)]; exact hinv) | (have h1 : mq_ag _ μ' _ := (by assumption); simp only [mq_ag_at h1 97 0 (by decide +kernel)] at *; omega) | (have h2 := ‹mq_ag _ _ _›; have h1 : mq_ag _ μ' _ := (by assumption); rw [mq_ag_at h2 97 0 (by decide +kernel), mq_ag_at h1 97 0 (by decide +kernel)]; omega) | (have h2 := ‹mq_ag _ _ _›; have h1 : mq_ag _ μ' _ := (by assumption); rw [mq_ag_at h2 69 0 (by decide +kernel), mq_ag_at h2 76 0 (by decide +kernel), mq_ag_at h1 69 0 (by decide +kernel), mq_ag_at h1 76 0 (by decide +kernel)]; exact hinv) | exact hE | (have hag := ‹mq_ag _ _ _›; exact e46_ag (by decide +kernel) (by decide +kernel) hag hE) | (have h2 := ‹mq_ag _ _ _›; have h1 : mq_ag _ μ' _ := (by assumption); exact e46_ag (by decide +kernel) (by decide +kernel) h2 (e46_ag (by decide +kernel) (by decide +kernel) h1 hE)) | (have h2 := ‹mq_ag _ _ _›; have h1 : mq_ag _ μ' _ := (by assumption); exact e46_keep h1 h2 hE (by assumption) (by assumption) (by assumption) (by assumption) (by assumption) (by assumption) (by decide +kernel) (by decide +kernel) (by decide +kernel)) | (have h1 : mq_ag _ μ' _ := (by assumption); have e9 := e46_back h1 hE (by assumption) (by assumption) (by assumption) (by assumption) (by decide +kernel) (by decide +kernel); omega)
set_option maxHeartbeats 16000000 in
set_option maxRecDepth 100000 in
theorem lq_1335 (N : Nat) (l : mq_L) (st : List mq_V) (ρ' : mq_R) (μ' : mq_M) (cs : Nat) (hJ : (match kq_law[51]? with | some q => q.2.2 (N + 1) l st ρ' μ' cs | none => False)) (hbk : mq_bok μ') (hrl : mq_rgl l) : mq_wp mq_fm mq_rg mq_rp pq_law lq_cl lq_md 1084 (fun v _ _ cs => v = 1 ∧ cs ≤ 1084) (mq_KK kq_law N) 400 (mq_seek 1335 pq_law) l st ρ' μ' cs := by
  obtain ⟨nw, sp, tl, tx, al⟩ := ρ'
  obtain ⟨i0, l0, rfl, hJ0⟩ := mq_tR_spec hJ
  obtain ⟨l1, rfl, hJ1⟩ := mq_tZ_spec hJ0
  obtain ⟨l2, rfl, hJ2⟩ := mq_tZ_spec hJ1
  obtain ⟨v3, l3, rfl, hJ3⟩ := mq_tI_spec hJ2
  obtain ⟨rfl, hJ4⟩ := mq_t0_spec hJ3
  clear hJ hJ0 hJ1 hJ2 hJ3
  obtain ⟨rfl, rfl, hcs, hc0, hc1, hc2, hc3, hinv, hE, hm0, hm1⟩ := hJ4
  obtain ⟨⟨hl3a, hl3b⟩, -⟩ := hrl
  repeat' (first | refine And.intro ?_ ?_ | intro _)
  all_goals try simp only [Int.reduceToNat, Int.reduceAdd, true_and, and_true, false_and, and_false, false_or, or_false, true_or, or_true, true_implies] at *
  all_goals first | omega | rfl | exact trivial | assumption | (have hag := ‹mq_ag _ _ _›; rw [mq_ag_at hag 97 0 (by decide +kernel)]; omega) | (have hag := ‹mq_ag _ _ _›; rw [mq_ag_at hag 69 0 (by decide +kernel), mq_ag_at hag 76 0 (by decide +kernel)]; assumption) | (have hag := ‹mq_ag _ _ _›; rw [mq_ag_at hag 69 0 (by decide +kernel), mq_ag_at hag 76 0 (by decide +kernel)]; exact hinv) | (have h1 : mq_ag _ μ' _ := (by assumption); simp only [mq_ag_at h1 97 0 (by decide +kernel)] at *; omega) | (have h2 := ‹mq_ag _ _ _›; have h1 : mq_ag _ μ' _ := (by assumption); rw [mq_ag_at h2 97 0 (by decide +kernel), mq_ag_at h1 97 0 (by decide +kernel)]; omega) | (have h2 := ‹mq_ag _ _ _›; have h1 : mq_ag _ μ' _ := (by assumption); rw [mq_ag_at h2 69 0 (by decide +kernel), mq_ag_at h2 76 0 (by decide +kernel), mq_ag_at h1 69 0 (by decide +kernel), mq_ag_at h1 76 0 (by decide +kernel)]; exact hinv) | exact hE | (have hag := ‹mq_ag _ _ _›; exact e46_ag (by decide +kernel) (by decide +kernel) hag hE) | (have h2 := ‹mq_ag _ _ _›; have h1 : mq_ag _ μ' _ := (by assumption); exact e46_ag (by decide +kernel) (by decide +kernel) h2 (e46_ag (by decide +kernel) (by decide +kernel) h1 hE)) | (have h2 := ‹mq_ag _ _ _›; have h1 : mq_ag _ μ' _ := (by assumption); exact e46_keep h1 h2 hE (by assumption) (by assumption) (by assumption) (by assumption) (by assumption) (by assumption) (by decide +kernel) (by decide +kernel) (by decide +kernel)) | (have h1 : mq_ag _ μ' _ := (by assumption); have e9 := e46_back h1 hE (by assumption) (by assumption) (by assumption) (by assumption) (by decide +kernel) (by decide +kernel); omega)
set_option maxHeartbeats 16000000 in
set_option maxRecDepth 100000 in
theorem lq_1350 (N : Nat) (l : mq_L) (st : List mq_V) (ρ' : mq_R) (μ' : mq_M) (cs : Nat) (hJ : (match kq_law[52]? with | some q => q.2.2 (N + 1) l st ρ' μ' cs | none => False)) (hbk : mq_bok μ') (hrl : mq_rgl l) : mq_wp mq_fm mq_rg mq_rp pq_law lq_cl lq_md 1084 (fun v _ _ cs => v = 1 ∧ cs ≤ 1084) (mq_KK kq_law N) 400 (mq_seek 1350 pq_law) l st ρ' μ' cs := by
  obtain ⟨nw, sp, tl, tx, al⟩ := ρ'
  obtain ⟨i0, l0, rfl, hJ0⟩ := mq_tR_spec hJ
  obtain ⟨l1, rfl, hJ1⟩ := mq_tZ_spec hJ0
  obtain ⟨l2, rfl, hJ2⟩ := mq_tZ_spec hJ1
  obtain ⟨v3, l3, rfl, hJ3⟩ := mq_tI_spec hJ2
  obtain ⟨rfl, hJ4⟩ := mq_t0_spec hJ3
  clear hJ hJ0 hJ1 hJ2 hJ3
  obtain ⟨rfl, rfl, hcs, hc0, hc1, hc2, hc3, hinv, hE, hm0, hm1⟩ := hJ4
  obtain ⟨⟨hl3a, hl3b⟩, -⟩ := hrl
  repeat' (first | refine And.intro ?_ ?_ | intro _)
  all_goals try simp only [Int.reduceToNat, Int.reduceAdd, true_and, and_true, false_and, and_false, false_or, or_false, true_or, or_true, true_implies] at *
  all_goals first | omega | rfl | exact trivial | assumption | (have hag := ‹mq_ag _ _ _›; rw [mq_ag_at hag 97 0 (by decide +kernel)]; omega) | (have hag := ‹mq_ag _ _ _›; rw [mq_ag_at hag 69 0 (by decide +kernel), mq_ag_at hag 76 0 (by decide +kernel)]; assumption) | (have hag := ‹mq_ag _ _ _›; rw [mq_ag_at hag 69 0 (by decide +kernel), mq_ag_at hag 76 0 (by decide +kernel)]; exact hinv) | (have h1 : mq_ag _ μ' _ := (by assumption); simp only [mq_ag_at h1 97 0 (by decide +kernel)] at *; omega) | (have h2 := ‹mq_ag _ _ _›; have h1 : mq_ag _ μ' _ := (by assumption); rw [mq_ag_at h2 97 0 (by decide +kernel), mq_ag_at h1 97 0 (by decide +kernel)]; omega) | (have h2 := ‹mq_ag _ _ _›; have h1 : mq_ag _ μ' _ := (by assumption); rw [mq_ag_at h2 69 0 (by decide +kernel), mq_ag_at h2 76 0 (by decide +kernel), mq_ag_at h1 69 0 (by decide +kernel), mq_ag_at h1 76 0 (by decide +kernel)]; exact hinv) | exact hE | (have hag := ‹mq_ag _ _ _›; exact e46_ag (by decide +kernel) (by decide +kernel) hag hE) | (have h2 := ‹mq_ag _ _ _›; have h1 : mq_ag _ μ' _ := (by assumption); exact e46_ag (by decide +kernel) (by decide +kernel) h2 (e46_ag (by decide +kernel) (by decide +kernel) h1 hE)) | (have h2 := ‹mq_ag _ _ _›; have h1 : mq_ag _ μ' _ := (by assumption); exact e46_keep h1 h2 hE (by assumption) (by assumption) (by assumption) (by assumption) (by assumption) (by assumption) (by decide +kernel) (by decide +kernel) (by decide +kernel)) | (have h1 : mq_ag _ μ' _ := (by assumption); have e9 := e46_back h1 hE (by assumption) (by assumption) (by assumption) (by assumption) (by decide +kernel) (by decide +kernel); omega)
set_option maxHeartbeats 16000000 in
set_option maxRecDepth 100000 in
theorem lq_1368 (N : Nat) (l : mq_L) (st : List mq_V) (ρ' : mq_R) (μ' : mq_M) (cs : Nat) (hJ : (match kq_law[53]? with | some q => q.2.2 (N + 1) l st ρ' μ' cs | none => False)) (hbk : mq_bok μ') (hrl : mq_rgl l) : mq_wp mq_fm mq_rg mq_rp pq_law lq_cl lq_md 1084 (fun v _ _ cs => v = 1 ∧ cs ≤ 1084) (mq_KK kq_law N) 400 (mq_seek 1368 pq_law) l st ρ' μ' cs := by
  obtain ⟨nw, sp, tl, tx, al⟩ := ρ'
  obtain ⟨i0, l0, rfl, hJ0⟩ := mq_tR_spec hJ
  obtain ⟨l1, rfl, hJ1⟩ := mq_tZ_spec hJ0
  obtain ⟨l2, rfl, hJ2⟩ := mq_tZ_spec hJ1
  obtain ⟨v3, l3, rfl, hJ3⟩ := mq_tI_spec hJ2
  obtain ⟨rfl, hJ4⟩ := mq_t0_spec hJ3
  clear hJ hJ0 hJ1 hJ2 hJ3
  obtain ⟨rfl, rfl, hcs, hc0, hc1, hc2, hc3, hinv, hE, hm0, hm1⟩ := hJ4
  obtain ⟨⟨hl3a, hl3b⟩, -⟩ := hrl
  repeat' (first | refine And.intro ?_ ?_ | intro _)
  all_goals try simp only [Int.reduceToNat, Int.reduceAdd, true_and, and_true, false_and, and_false, false_or, or_false, true_or, or_true, true_implies] at *
  all_goals first | omega | rfl | exact trivial | assumption | (have hag := ‹mq_ag _ _ _›; rw [mq_ag_at hag 97 0 (by decide +kernel)]; omega) | (have hag := ‹mq_ag _ _ _›; rw [mq_ag_at hag 69 0 (by decide +kernel), mq_ag_at hag 76 0 (by decide +kernel)]; assumption) | (have hag := ‹mq_ag _ _ _›; rw [mq_ag_at hag 69 0 (by decide +kernel), mq_ag_at hag 76 0 (by decide +kernel)]; exact hinv) | (have h1 : mq_ag _ μ' _ := (by assumption); simp only [mq_ag_at h1 97 0 (by decide +kernel)] at *; omega) | (have h2 := ‹mq_ag _ _ _›; have h1 : mq_ag _ μ' _ := (by assumption); rw [mq_ag_at h2 97 0 (by decide +kernel), mq_ag_at h1 97 0 (by decide +kernel)]; omega) | (have h2 := ‹mq_ag _ _ _›; have h1 : mq_ag _ μ' _ := (by assumption); rw [mq_ag_at h2 69 0 (by decide +kernel), mq_ag_at h2 76 0 (by decide +kernel), mq_ag_at h1 69 0 (by decide +kernel), mq_ag_at h1 76 0 (by decide +kernel)]; exact hinv) | exact hE | (have hag := ‹mq_ag _ _ _›; exact e46_ag (by decide +kernel) (by decide +kernel) hag hE) | (have h2 := ‹mq_ag _ _ _›; have h1 : mq_ag _ μ' _ := (by assumption); exact e46_ag (by decide +kernel) (by decide +kernel) h2 (e46_ag (by decide +kernel) (by decide +kernel) h1 hE)) | (have h2 := ‹mq_ag _ _ _›; have h1 : mq_ag _ μ' _ := (by assumption); exact e46_keep h1 h2 hE (by assumption) (by assumption) (by assumption) (by assumption) (by assumption) (by assumption) (by decide +kernel) (by decide +kernel) (by decide +kernel)) | (have h1 : mq_ag _ μ' _ := (by assumption); have e9 := e46_back h1 hE (by assumption) (by assumption) (by assumption) (by assumption) (by decide +kernel) (by decide +kernel); omega)
set_option maxHeartbeats 16000000 in
set_option maxRecDepth 100000 in
theorem lq_1383 (N : Nat) (l : mq_L) (st : List mq_V) (ρ' : mq_R) (μ' : mq_M) (cs : Nat) (hJ : (match kq_law[54]? with | some q => q.2.2 (N + 1) l st ρ' μ' cs | none => False)) (hbk : mq_bok μ') (hrl : mq_rgl l) : mq_wp mq_fm mq_rg mq_rp pq_law lq_cl lq_md 1084 (fun v _ _ cs => v = 1 ∧ cs ≤ 1084) (mq_KK kq_law N) 400 (mq_seek 1383 pq_law) l st ρ' μ' cs := by
  obtain ⟨nw, sp, tl, tx, al⟩ := ρ'
  obtain ⟨i0, l0, rfl, hJ0⟩ := mq_tR_spec hJ
  obtain ⟨l1, rfl, hJ1⟩ := mq_tZ_spec hJ0
  obtain ⟨l2, rfl, hJ2⟩ := mq_tZ_spec hJ1
  obtain ⟨v3, l3, rfl, hJ3⟩ := mq_tI_spec hJ2
  obtain ⟨rfl, hJ4⟩ := mq_t0_spec hJ3
  clear hJ hJ0 hJ1 hJ2 hJ3
  obtain ⟨rfl, rfl, hcs, hc0, hc1, hc2, hc3, hinv, hE, hm0, hm1⟩ := hJ4
  obtain ⟨⟨hl3a, hl3b⟩, -⟩ := hrl
  repeat' (first | refine And.intro ?_ ?_ | intro _)
  all_goals try simp only [Int.reduceToNat, Int.reduceAdd, true_and, and_true, false_and, and_false, false_or, or_false, true_or, or_true, true_implies] at *
  all_goals first | omega | rfl | exact trivial | assumption | (have hag := ‹mq_ag _ _ _›; rw [mq_ag_at hag 97 0 (by decide +kernel)]; omega) | (have hag := ‹mq_ag _ _ _›; rw [mq_ag_at hag 69 0 (by decide +kernel), mq_ag_at hag 76 0 (by decide +kernel)]; assumption) | (have hag := ‹mq_ag _ _ _›; rw [mq_ag_at hag 69 0 (by decide +kernel), mq_ag_at hag 76 0 (by decide +kernel)]; exact hinv) | (have h1 : mq_ag _ μ' _ := (by assumption); simp only [mq_ag_at h1 97 0 (by decide +kernel)] at *; omega) | (have h2 := ‹mq_ag _ _ _›; have h1 : mq_ag _ μ' _ := (by assumption); rw [mq_ag_at h2 97 0 (by decide +kernel), mq_ag_at h1 97 0 (by decide +kernel)]; omega) | (have h2 := ‹mq_ag _ _ _›; have h1 : mq_ag _ μ' _ := (by assumption); rw [mq_ag_at h2 69 0 (by decide +kernel), mq_ag_at h2 76 0 (by decide +kernel), mq_ag_at h1 69 0 (by decide +kernel), mq_ag_at h1 76 0 (by decide +kernel)]; exact hinv) | exact hE | (have hag := ‹mq_ag _ _ _›; exact e46_ag (by decide +kernel) (by decide +kernel) hag hE) | (have h2 := ‹mq_ag _ _ _›; have h1 : mq_ag _ μ' _ := (by assumption); exact e46_ag (by decide +kernel) (by decide +kernel) h2 (e46_ag (by decide +kernel) (by decide +kernel) h1 hE)) | (have h2 := ‹mq_ag _ _ _›; have h1 : mq_ag _ μ' _ := (by assumption); exact e46_keep h1 h2 hE (by assumption) (by assumption) (by assumption) (by assumption) (by assumption) (by assumption) (by decide +kernel) (by decide +kernel) (by decide +kernel)) | (have h1 : mq_ag _ μ' _ := (by assumption); have e9 := e46_back h1 hE (by assumption) (by assumption) (by assumption) (by assumption) (by decide +kernel) (by decide +kernel); omega)
set_option maxHeartbeats 16000000 in
set_option maxRecDepth 100000 in
theorem lq_1401 (N : Nat) (l : mq_L) (st : List mq_V) (ρ' : mq_R) (μ' : mq_M) (cs : Nat) (hJ : (match kq_law[55]? with | some q => q.2.2 (N + 1) l st ρ' μ' cs | none => False)) (hbk : mq_bok μ') (hrl : mq_rgl l) : mq_wp mq_fm mq_rg mq_rp pq_law lq_cl lq_md 1084 (fun v _ _ cs => v = 1 ∧ cs ≤ 1084) (mq_KK kq_law N) 400 (mq_seek 1401 pq_law) l st ρ' μ' cs := by
  obtain ⟨nw, sp, tl, tx, al⟩ := ρ'
  obtain ⟨i0, l0, rfl, hJ0⟩ := mq_tR_spec hJ
  obtain ⟨l1, rfl, hJ1⟩ := mq_tZ_spec hJ0
  obtain ⟨l2, rfl, hJ2⟩ := mq_tZ_spec hJ1
  obtain ⟨v3, l3, rfl, hJ3⟩ := mq_tI_spec hJ2
  obtain ⟨rfl, hJ4⟩ := mq_t0_spec hJ3
  clear hJ hJ0 hJ1 hJ2 hJ3
  obtain ⟨rfl, rfl, hcs, hc0, hc1, hc2, hc3, hinv, hE, hm0, hm1⟩ := hJ4
  obtain ⟨⟨hl3a, hl3b⟩, -⟩ := hrl
  repeat' (first | refine And.intro ?_ ?_ | intro _)
  all_goals try simp only [Int.reduceToNat, Int.reduceAdd, true_and, and_true, false_and, and_false, false_or, or_false, true_or, or_true, true_implies] at *
  all_goals first | omega | rfl | exact trivial | assumption | (have hag := ‹mq_ag _ _ _›; rw [mq_ag_at hag 97 0 (by decide +kernel)]; omega) | (have hag := ‹mq_ag _ _ _›; rw [mq_ag_at hag 69 0 (by decide +kernel), mq_ag_at hag 76 0 (by decide +kernel)]; assumption) | (have hag := ‹mq_ag _ _ _›; rw [mq_ag_at hag 69 0 (by decide +kernel), mq_ag_at hag 76 0 (by decide +kernel)]; exact hinv) | (have h1 : mq_ag _ μ' _ := (by assumption); simp only [mq_ag_at h1 97 0 (by decide +kernel)] at *; omega) | (have h2 := ‹mq_ag _ _ _›; have h1 : mq_ag _ μ' _ := (by assumption); rw [mq_ag_at h2 97 0 (by decide +kernel), mq_ag_at h1 97 0 (by decide +kernel)]; omega) | (have h2 := ‹mq_ag _ _ _›; have h1 : mq_ag _ μ' _ := (by assumption); rw [mq_ag_at h2 69 0 (by decide +kernel), mq_ag_at h2 76 0 (by decide +kernel), mq_ag_at h1 69 0 (by decide +kernel), mq_ag_at h1 76 0 (by decide +kernel)]; exact hinv) | exact hE | (have hag := ‹mq_ag _ _ _›; exact e46_ag (by decide +kernel) (by decide +kernel) hag hE) | (have h2 := ‹mq_ag _ _ _›; have h1 : mq_ag _ μ' _ := (by assumption); exact e46_ag (by decide +kernel) (by decide +kernel) h2 (e46_ag (by decide +kernel) (by decide +kernel) h1 hE)) | (have h2 := ‹mq_ag _ _ _›; have h1 : mq_ag _ μ' _ := (by assumption); exact e46_keep h1 h2 hE (by assumption) (by assumption) (by assumption) (by assumption) (by assumption) (by assumption) (by decide +kernel) (by decide +kernel) (by decide +kernel)) | (have h1 : mq_ag _ μ' _ := (by assumption); have e9 := e46_back h1 hE (by assumption) (by assumption) (by assumption) (by assumption) (by decide +kernel) (by decide +kernel); omega)
set_option maxHeartbeats 16000000 in
set_option maxRecDepth 100000 in
theorem lq_1416 (N : Nat) (l : mq_L) (st : List mq_V) (ρ' : mq_R) (μ' : mq_M) (cs : Nat) (hJ : (match kq_law[56]? with | some q => q.2.2 (N + 1) l st ρ' μ' cs | none => False)) (hbk : mq_bok μ') (hrl : mq_rgl l) : mq_wp mq_fm mq_rg mq_rp pq_law lq_cl lq_md 1084 (fun v _ _ cs => v = 1 ∧ cs ≤ 1084) (mq_KK kq_law N) 400 (mq_seek 1416 pq_law) l st ρ' μ' cs := by
  obtain ⟨nw, sp, tl, tx, al⟩ := ρ'
  obtain ⟨i0, l0, rfl, hJ0⟩ := mq_tR_spec hJ
  obtain ⟨l1, rfl, hJ1⟩ := mq_tZ_spec hJ0
  obtain ⟨l2, rfl, hJ2⟩ := mq_tZ_spec hJ1
  obtain ⟨v3, l3, rfl, hJ3⟩ := mq_tI_spec hJ2
  obtain ⟨rfl, hJ4⟩ := mq_t0_spec hJ3
  clear hJ hJ0 hJ1 hJ2 hJ3
  obtain ⟨rfl, rfl, hcs, hc0, hc1, hc2, hc3, hinv, hE, hm0, hm1⟩ := hJ4
  obtain ⟨⟨hl3a, hl3b⟩, -⟩ := hrl
  repeat' (first | refine And.intro ?_ ?_ | intro _)
  all_goals try simp only [Int.reduceToNat, Int.reduceAdd, true_and, and_true, false_and, and_false, false_or, or_false, true_or, or_true, true_implies] at *
  all_goals first | omega | rfl | exact trivial | assumption | (have hag := ‹mq_ag _ _ _›; rw [mq_ag_at hag 97 0 (by decide +kernel)]; omega) | (have hag := ‹mq_ag _ _ _›; rw [mq_ag_at hag 69 0 (by decide +kernel), mq_ag_at hag 76 0 (by decide +kernel)]; assumption) | (have hag := ‹mq_ag _ _ _›; rw [mq_ag_at hag 69 0 (by decide +kernel), mq_ag_at hag 76 0 (by decide +kernel)]; exact hinv) | (have h1 : mq_ag _ μ' _ := (by assumption); simp only [mq_ag_at h1 97 0 (by decide +kernel)] at *; omega) | (have h2 := ‹mq_ag _ _ _›; have h1 : mq_ag _ μ' _ := (by assumption); rw [mq_ag_at h2 97 0 (by decide +kernel), mq_ag_at h1 97 0 (by decide +kernel)]; omega) | (have h2 := ‹mq_ag _ _ _›; have h1 : mq_ag _ μ' _ := (by assumption); rw [mq_ag_at h2 69 0 (by decide +kernel), mq_ag_at h2 76 0 (by decide +kernel), mq_ag_at h1 69 0 (by decide +kernel), mq_ag_at h1 76 0 (by decide +kernel)]; exact hinv) | exact hE | (have hag := ‹mq_ag _ _ _›; exact e46_ag (by decide +kernel) (by decide +kernel) hag hE) | (have h2 := ‹mq_ag _ _ _›; have h1 : mq_ag _ μ' _ := (by assumption); exact e46_ag (by decide +kernel) (by decide +kernel) h2 (e46_ag (by decide +kernel) (by decide +kernel) h1 hE)) | (have h2 := ‹mq_ag _ _ _›; have h1 : mq_ag _ μ' _ := (by assumption); exact e46_keep h1 h2 hE (by assumption) (by assumption) (by assumption) (by assumption) (by assumption) (by assumption) (by decide +kernel) (by decide +kernel) (by decide +kernel)) | (have h1 : mq_ag _ μ' _ := (by assumption); have e9 := e46_back h1 hE (by assumption) (by assumption) (by assumption) (by assumption) (by decide +kernel) (by decide +kernel); omega)
set_option maxHeartbeats 16000000 in
set_option maxRecDepth 100000 in
theorem lq_1434 (N : Nat) (l : mq_L) (st : List mq_V) (ρ' : mq_R) (μ' : mq_M) (cs : Nat) (hJ : (match kq_law[57]? with | some q => q.2.2 (N + 1) l st ρ' μ' cs | none => False)) (hbk : mq_bok μ') (hrl : mq_rgl l) : mq_wp mq_fm mq_rg mq_rp pq_law lq_cl lq_md 1084 (fun v _ _ cs => v = 1 ∧ cs ≤ 1084) (mq_KK kq_law N) 400 (mq_seek 1434 pq_law) l st ρ' μ' cs := by
  obtain ⟨nw, sp, tl, tx, al⟩ := ρ'
  obtain ⟨i0, l0, rfl, hJ0⟩ := mq_tR_spec hJ
  obtain ⟨l1, rfl, hJ1⟩ := mq_tZ_spec hJ0
  obtain ⟨l2, rfl, hJ2⟩ := mq_tZ_spec hJ1
  obtain ⟨v3, l3, rfl, hJ3⟩ := mq_tI_spec hJ2
  obtain ⟨rfl, hJ4⟩ := mq_t0_spec hJ3
  clear hJ hJ0 hJ1 hJ2 hJ3
  obtain ⟨rfl, rfl, hcs, hc0, hc1, hc2, hc3, hinv, hE, hm0, hm1⟩ := hJ4
  obtain ⟨⟨hl3a, hl3b⟩, -⟩ := hrl
  repeat' (first | refine And.intro ?_ ?_ | intro _)
  all_goals try simp only [Int.reduceToNat, Int.reduceAdd, true_and, and_true, false_and, and_false, false_or, or_false, true_or, or_true, true_implies] at *
  all_goals first | omega | rfl | exact trivial | assumption | (have hag := ‹mq_ag _ _ _›; rw [mq_ag_at hag 97 0 (by decide +kernel)]; omega) | (have hag := ‹mq_ag _ _ _›; rw [mq_ag_at hag 69 0 (by decide +kernel), mq_ag_at hag 76 0 (by decide +kernel)]; assumption) | (have hag := ‹mq_ag _ _ _›; rw [mq_ag_at hag 69 0 (by decide +kernel), mq_ag_at hag 76 0 (by decide +kernel)]; exact hinv) | (have h1 : mq_ag _ μ' _ := (by assumption); simp only [mq_ag_at h1 97 0 (by decide +kernel)] at *; omega) | (have h2 := ‹mq_ag _ _ _›; have h1 : mq_ag _ μ' _ := (by assumption); rw [mq_ag_at h2 97 0 (by decide +kernel), mq_ag_at h1 97 0 (by decide +kernel)]; omega) | (have h2 := ‹mq_ag _ _ _›; have h1 : mq_ag _ μ' _ := (by assumption); rw [mq_ag_at h2 69 0 (by decide +kernel), mq_ag_at h2 76 0 (by decide +kernel), mq_ag_at h1 69 0 (by decide +kernel), mq_ag_at h1 76 0 (by decide +kernel)]; exact hinv) | exact hE | (have hag := ‹mq_ag _ _ _›; exact e46_ag (by decide +kernel) (by decide +kernel) hag hE) | (have h2 := ‹mq_ag _ _ _›; have h1 : mq_ag _ μ' _ := (by assumption); exact e46_ag (by decide +kernel) (by decide +kernel) h2 (e46_ag (by decide +kernel) (by decide +kernel) h1 hE)) | (have h2 := ‹mq_ag _ _ _›; have h1 : mq_ag _ μ' _ := (by assumption); exact e46_keep h1 h2 hE (by assumption) (by assumption) (by assumption) (by assumption) (by assumption) (by assumption) (by decide +kernel) (by decide +kernel) (by decide +kernel)) | (have h1 : mq_ag _ μ' _ := (by assumption); have e9 := e46_back h1 hE (by assumption) (by assumption) (by assumption) (by assumption) (by decide +kernel) (by decide +kernel); omega)
set_option maxHeartbeats 16000000 in
set_option maxRecDepth 100000 in
theorem lq_1444 (N : Nat) (l : mq_L) (st : List mq_V) (ρ' : mq_R) (μ' : mq_M) (cs : Nat) (hJ : (match kq_law[58]? with | some q => q.2.2 (N + 1) l st ρ' μ' cs | none => False)) (hbk : mq_bok μ') (hrl : mq_rgl l) : mq_wp mq_fm mq_rg mq_rp pq_law lq_cl lq_md 1084 (fun v _ _ cs => v = 1 ∧ cs ≤ 1084) (mq_KK kq_law N) 400 (mq_seek 1444 pq_law) l st ρ' μ' cs := by
  obtain ⟨nw, sp, tl, tx, al⟩ := ρ'
  obtain ⟨i0, l0, rfl, hJ0⟩ := mq_tR_spec hJ
  obtain ⟨l1, rfl, hJ1⟩ := mq_tZ_spec hJ0
  obtain ⟨l2, rfl, hJ2⟩ := mq_tZ_spec hJ1
  obtain ⟨v3, l3, rfl, hJ3⟩ := mq_tI_spec hJ2
  obtain ⟨rfl, hJ4⟩ := mq_t0_spec hJ3
  clear hJ hJ0 hJ1 hJ2 hJ3
  obtain ⟨rfl, rfl, hcs, hc0, hc1, hc2, hc3, hinv, hE, hm0, hm1⟩ := hJ4
  obtain ⟨⟨hl3a, hl3b⟩, -⟩ := hrl
  repeat' (first | refine And.intro ?_ ?_ | intro _)
  all_goals try simp only [Int.reduceToNat, Int.reduceAdd, true_and, and_true, false_and, and_false, false_or, or_false, true_or, or_true, true_implies] at *
  all_goals first | omega | rfl | exact trivial | assumption | (have hag := ‹mq_ag _ _ _›; rw [mq_ag_at hag 97 0 (by decide +kernel)]; omega) | (have hag := ‹mq_ag _ _ _›; rw [mq_ag_at hag 69 0 (by decide +kernel), mq_ag_at hag 76 0 (by decide +kernel)]; assumption) | (have hag := ‹mq_ag _ _ _›; rw [mq_ag_at hag 69 0 (by decide +kernel), mq_ag_at hag 76 0 (by decide +kernel)]; exact hinv) | (have h1 : mq_ag _ μ' _ := (by assumption); simp only [mq_ag_at h1 97 0 (by decide +kernel)] at *; omega) | (have h2 := ‹mq_ag _ _ _›; have h1 : mq_ag _ μ' _ := (by assumption); rw [mq_ag_at h2 97 0 (by decide +kernel), mq_ag_at h1 97 0 (by decide +kernel)]; omega) | (have h2 := ‹mq_ag _ _ _›; have h1 : mq_ag _ μ' _ := (by assumption); rw [mq_ag_at h2 69 0 (by decide +kernel), mq_ag_at h2 76 0 (by decide +kernel), mq_ag_at h1 69 0 (by decide +kernel), mq_ag_at h1 76 0 (by decide +kernel)]; exact hinv) | exact hE | (have hag := ‹mq_ag _ _ _›; exact e46_ag (by decide +kernel) (by decide +kernel) hag hE) | (have h2 := ‹mq_ag _ _ _›; have h1 : mq_ag _ μ' _ := (by assumption); exact e46_ag (by decide +kernel) (by decide +kernel) h2 (e46_ag (by decide +kernel) (by decide +kernel) h1 hE)) | (have h2 := ‹mq_ag _ _ _›; have h1 : mq_ag _ μ' _ := (by assumption); exact e46_keep h1 h2 hE (by assumption) (by assumption) (by assumption) (by assumption) (by assumption) (by assumption) (by decide +kernel) (by decide +kernel) (by decide +kernel)) | (have h1 : mq_ag _ μ' _ := (by assumption); have e9 := e46_back h1 hE (by assumption) (by assumption) (by assumption) (by assumption) (by decide +kernel) (by decide +kernel); omega)
set_option maxHeartbeats 16000000 in
set_option maxRecDepth 100000 in
theorem lq_1457 (N : Nat) (l : mq_L) (st : List mq_V) (ρ' : mq_R) (μ' : mq_M) (cs : Nat) (hJ : (match kq_law[59]? with | some q => q.2.2 (N + 1) l st ρ' μ' cs | none => False)) (hbk : mq_bok μ') (hrl : mq_rgl l) : mq_wp mq_fm mq_rg mq_rp pq_law lq_cl lq_md 1084 (fun v _ _ cs => v = 1 ∧ cs ≤ 1084) (mq_KK kq_law N) 400 (mq_seek 1457 pq_law) l st ρ' μ' cs := by
  obtain ⟨nw, sp, tl, tx, al⟩ := ρ'
  obtain ⟨i0, l0, rfl, hJ0⟩ := mq_tR_spec hJ
  obtain ⟨l1, rfl, hJ1⟩ := mq_tZ_spec hJ0
  obtain ⟨l2, rfl, hJ2⟩ := mq_tZ_spec hJ1
  obtain ⟨v3, l3, rfl, hJ3⟩ := mq_tI_spec hJ2
  obtain ⟨rfl, hJ4⟩ := mq_t0_spec hJ3
  clear hJ hJ0 hJ1 hJ2 hJ3
  obtain ⟨rfl, rfl, hcs, hc0, hc1, hc2, hc3, hinv, hE, hm0, hm1⟩ := hJ4
  obtain ⟨⟨hl3a, hl3b⟩, -⟩ := hrl
  repeat' (first | refine And.intro ?_ ?_ | intro _)
  all_goals try simp only [Int.reduceToNat, Int.reduceAdd, true_and, and_true, false_and, and_false, false_or, or_false, true_or, or_true, true_implies] at *
  all_goals first | omega | rfl | exact trivial | assumption | (have hag := ‹mq_ag _ _ _›; rw [mq_ag_at hag 97 0 (by decide +kernel)]; omega) | (have hag := ‹mq_ag _ _ _›; rw [mq_ag_at hag 69 0 (by decide +kernel), mq_ag_at hag 76 0 (by decide +kernel)]; assumption) | (have hag := ‹mq_ag _ _ _›; rw [mq_ag_at hag 69 0 (by decide +kernel), mq_ag_at hag 76 0 (by decide +kernel)]; exact hinv) | (have h1 : mq_ag _ μ' _ := (by assumption); simp only [mq_ag_at h1 97 0 (by decide +kernel)] at *; omega) | (have h2 := ‹mq_ag _ _ _›; have h1 : mq_ag _ μ' _ := (by assumption); rw [mq_ag_at h2 97 0 (by decide +kernel), mq_ag_at h1 97 0 (by decide +kernel)]; omega) | (have h2 := ‹mq_ag _ _ _›; have h1 : mq_ag _ μ' _ := (by assumption); rw [mq_ag_at h2 69 0 (by decide +kernel), mq_ag_at h2 76 0 (by decide +kernel), mq_ag_at h1 69 0 (by decide +kernel), mq_ag_at h1 76 0 (by decide +kernel)]; exact hinv) | exact hE | (have hag := ‹mq_ag _ _ _›; exact e46_ag (by decide +kernel) (by decide +kernel) hag hE) | (have h2 := ‹mq_ag _ _ _›; have h1 : mq_ag _ μ' _ := (by assumption); exact e46_ag (by decide +kernel) (by decide +kernel) h2 (e46_ag (by decide +kernel) (by decide +kernel) h1 hE)) | (have h2 := ‹mq_ag _ _ _›; have h1 : mq_ag _ μ' _ := (by assumption); exact e46_keep h1 h2 hE (by assumption) (by assumption) (by assumption) (by assumption) (by assumption) (by assumption) (by decide +kernel) (by decide +kernel) (by decide +kernel)) | (have h1 : mq_ag _ μ' _ := (by assumption); have e9 := e46_back h1 hE (by assumption) (by assumption) (by assumption) (by assumption) (by decide +kernel) (by decide +kernel); omega)
set_option maxHeartbeats 16000000 in
set_option maxRecDepth 100000 in
theorem lq_1462 (N : Nat) (l : mq_L) (st : List mq_V) (ρ' : mq_R) (μ' : mq_M) (cs : Nat) (hJ : (match kq_law[60]? with | some q => q.2.2 (N + 1) l st ρ' μ' cs | none => False)) (hbk : mq_bok μ') (hrl : mq_rgl l) : mq_wp mq_fm mq_rg mq_rp pq_law lq_cl lq_md 1084 (fun v _ _ cs => v = 1 ∧ cs ≤ 1084) (mq_KK kq_law N) 400 (mq_seek 1462 pq_law) l st ρ' μ' cs := by
  obtain ⟨nw, sp, tl, tx, al⟩ := ρ'
  obtain ⟨i0, l0, rfl, hJ0⟩ := mq_tR_spec hJ
  obtain ⟨l1, rfl, hJ1⟩ := mq_tZ_spec hJ0
  obtain ⟨l2, rfl, hJ2⟩ := mq_tZ_spec hJ1
  obtain ⟨v3, l3, rfl, hJ3⟩ := mq_tI_spec hJ2
  obtain ⟨rfl, hJ4⟩ := mq_t0_spec hJ3
  clear hJ hJ0 hJ1 hJ2 hJ3
  obtain ⟨rfl, rfl, hcs, hc0, hc1, hc2, hc3, hinv, hE, hm0, hm1⟩ := hJ4
  obtain ⟨⟨hl3a, hl3b⟩, -⟩ := hrl
  repeat' (first | refine And.intro ?_ ?_ | intro _)
  all_goals try simp only [Int.reduceToNat, Int.reduceAdd, true_and, and_true, false_and, and_false, false_or, or_false, true_or, or_true, true_implies] at *
  all_goals first | omega | rfl | exact trivial | assumption | (have hag := ‹mq_ag _ _ _›; rw [mq_ag_at hag 97 0 (by decide +kernel)]; omega) | (have hag := ‹mq_ag _ _ _›; rw [mq_ag_at hag 69 0 (by decide +kernel), mq_ag_at hag 76 0 (by decide +kernel)]; assumption) | (have hag := ‹mq_ag _ _ _›; rw [mq_ag_at hag 69 0 (by decide +kernel), mq_ag_at hag 76 0 (by decide +kernel)]; exact hinv) | (have h1 : mq_ag _ μ' _ := (by assumption); simp only [mq_ag_at h1 97 0 (by decide +kernel)] at *; omega) | (have h2 := ‹mq_ag _ _ _›; have h1 : mq_ag _ μ' _ := (by assumption); rw [mq_ag_at h2 97 0 (by decide +kernel), mq_ag_at h1 97 0 (by decide +kernel)]; omega) | (have h2 := ‹mq_ag _ _ _›; have h1 : mq_ag _ μ' _ := (by assumption); rw [mq_ag_at h2 69 0 (by decide +kernel), mq_ag_at h2 76 0 (by decide +kernel), mq_ag_at h1 69 0 (by decide +kernel), mq_ag_at h1 76 0 (by decide +kernel)]; exact hinv) | exact hE | (have hag := ‹mq_ag _ _ _›; exact e46_ag (by decide +kernel) (by decide +kernel) hag hE) | (have h2 := ‹mq_ag _ _ _›; have h1 : mq_ag _ μ' _ := (by assumption); exact e46_ag (by decide +kernel) (by decide +kernel) h2 (e46_ag (by decide +kernel) (by decide +kernel) h1 hE)) | (have h2 := ‹mq_ag _ _ _›; have h1 : mq_ag _ μ' _ := (by assumption); exact e46_keep h1 h2 hE (by assumption) (by assumption) (by assumption) (by assumption) (by assumption) (by assumption) (by decide +kernel) (by decide +kernel) (by decide +kernel)) | (have h1 : mq_ag _ μ' _ := (by assumption); have e9 := e46_back h1 hE (by assumption) (by assumption) (by assumption) (by assumption) (by decide +kernel) (by decide +kernel); omega)
set_option maxHeartbeats 16000000 in
set_option maxRecDepth 100000 in
theorem lq_1470 (N : Nat) (l : mq_L) (st : List mq_V) (ρ' : mq_R) (μ' : mq_M) (cs : Nat) (hJ : (match kq_law[61]? with | some q => q.2.2 (N + 1) l st ρ' μ' cs | none => False)) (hbk : mq_bok μ') (hrl : mq_rgl l) : mq_wp mq_fm mq_rg mq_rp pq_law lq_cl lq_md 1084 (fun v _ _ cs => v = 1 ∧ cs ≤ 1084) (mq_KK kq_law N) 400 (mq_seek 1470 pq_law) l st ρ' μ' cs := by
  obtain ⟨nw, sp, tl, tx, al⟩ := ρ'
  obtain ⟨i0, l0, rfl, hJ0⟩ := mq_tR_spec hJ
  obtain ⟨l1, rfl, hJ1⟩ := mq_tZ_spec hJ0
  obtain ⟨l2, rfl, hJ2⟩ := mq_tZ_spec hJ1
  obtain ⟨v3, l3, rfl, hJ3⟩ := mq_tI_spec hJ2
  obtain ⟨rfl, hJ4⟩ := mq_t0_spec hJ3
  clear hJ hJ0 hJ1 hJ2 hJ3
  obtain ⟨rfl, rfl, hcs, hc0, hc1, hc2, hc3, hinv, hE, hm0, hm1⟩ := hJ4
  obtain ⟨⟨hl3a, hl3b⟩, -⟩ := hrl
  repeat' (first | refine And.intro ?_ ?_ | intro _)
  all_goals try simp only [Int.reduceToNat, Int.reduceAdd, true_and, and_true, false_and, and_false, false_or, or_false, true_or, or_true, true_implies] at *
  all_goals first | omega | rfl | exact trivial | assumption | (have hag := ‹mq_ag _ _ _›; rw [mq_ag_at hag 97 0 (by decide +kernel)]; omega) | (have hag := ‹mq_ag _ _ _›; rw [mq_ag_at hag 69 0 (by decide +kernel), mq_ag_at hag 76 0 (by decide +kernel)]; assumption) | (have hag := ‹mq_ag _ _ _›; rw [mq_ag_at hag 69 0 (by decide +kernel), mq_ag_at hag 76 0 (by decide +kernel)]; exact hinv) | (have h1 : mq_ag _ μ' _ := (by assumption); simp only [mq_ag_at h1 97 0 (by decide +kernel)] at *; omega) | (have h2 := ‹mq_ag _ _ _›; have h1 : mq_ag _ μ' _ := (by assumption); rw [mq_ag_at h2 97 0 (by decide +kernel), mq_ag_at h1 97 0 (by decide +kernel)]; omega) | (have h2 := ‹mq_ag _ _ _›; have h1 : mq_ag _ μ' _ := (by assumption); rw [mq_ag_at h2 69 0 (by decide +kernel), mq_ag_at h2 76 0 (by decide +kernel), mq_ag_at h1 69 0 (by decide +kernel), mq_ag_at h1 76 0 (by decide +kernel)]; exact hinv) | exact hE | (have hag := ‹mq_ag _ _ _›; exact e46_ag (by decide +kernel) (by decide +kernel) hag hE) | (have h2 := ‹mq_ag _ _ _›; have h1 : mq_ag _ μ' _ := (by assumption); exact e46_ag (by decide +kernel) (by decide +kernel) h2 (e46_ag (by decide +kernel) (by decide +kernel) h1 hE)) | (have h2 := ‹mq_ag _ _ _›; have h1 : mq_ag _ μ' _ := (by assumption); exact e46_keep h1 h2 hE (by assumption) (by assumption) (by assumption) (by assumption) (by assumption) (by assumption) (by decide +kernel) (by decide +kernel) (by decide +kernel)) | (have h1 : mq_ag _ μ' _ := (by assumption); have e9 := e46_back h1 hE (by assumption) (by assumption) (by assumption) (by assumption) (by decide +kernel) (by decide +kernel); omega)
set_option maxHeartbeats 16000000 in
set_option maxRecDepth 100000 in
theorem lq_1480 (N : Nat) (l : mq_L) (st : List mq_V) (ρ' : mq_R) (μ' : mq_M) (cs : Nat) (hJ : (match kq_law[62]? with | some q => q.2.2 (N + 1) l st ρ' μ' cs | none => False)) (hbk : mq_bok μ') (hrl : mq_rgl l) : mq_wp mq_fm mq_rg mq_rp pq_law lq_cl lq_md 1084 (fun v _ _ cs => v = 1 ∧ cs ≤ 1084) (mq_KK kq_law N) 400 (mq_seek 1480 pq_law) l st ρ' μ' cs := by
  obtain ⟨nw, sp, tl, tx, al⟩ := ρ'
  obtain ⟨i0, l0, rfl, hJ0⟩ := mq_tR_spec hJ
  obtain ⟨l1, rfl, hJ1⟩ := mq_tZ_spec hJ0
  obtain ⟨l2, rfl, hJ2⟩ := mq_tZ_spec hJ1
  obtain ⟨v3, l3, rfl, hJ3⟩ := mq_tI_spec hJ2
  obtain ⟨rfl, hJ4⟩ := mq_t0_spec hJ3
  clear hJ hJ0 hJ1 hJ2 hJ3
  obtain ⟨rfl, rfl, hcs, hc0, hc1, hc2, hc3, hinv, hE, hm0, hm1⟩ := hJ4
  obtain ⟨⟨hl3a, hl3b⟩, -⟩ := hrl
  repeat' (first | refine And.intro ?_ ?_ | intro _)
  all_goals try simp only [Int.reduceToNat, Int.reduceAdd, true_and, and_true, false_and, and_false, false_or, or_false, true_or, or_true, true_implies] at *
  all_goals first | omega | rfl | exact trivial | assumption | (have hag := ‹mq_ag _ _ _›; rw [mq_ag_at hag 97 0 (by decide +kernel)]; omega) | (have hag := ‹mq_ag _ _ _›; rw [mq_ag_at hag 69 0 (by decide +kernel), mq_ag_at hag 76 0 (by decide +kernel)]; assumption) | (have hag := ‹mq_ag _ _ _›; rw [mq_ag_at hag 69 0 (by decide +kernel), mq_ag_at hag 76 0 (by decide +kernel)]; exact hinv) | (have h1 : mq_ag _ μ' _ := (by assumption); simp only [mq_ag_at h1 97 0 (by decide +kernel)] at *; omega) | (have h2 := ‹mq_ag _ _ _›; have h1 : mq_ag _ μ' _ := (by assumption); rw [mq_ag_at h2 97 0 (by decide +kernel), mq_ag_at h1 97 0 (by decide +kernel)]; omega) | (have h2 := ‹mq_ag _ _ _›; have h1 : mq_ag _ μ' _ := (by assumption); rw [mq_ag_at h2 69 0 (by decide +kernel), mq_ag_at h2 76 0 (by decide +kernel), mq_ag_at h1 69 0 (by decide +kernel), mq_ag_at h1 76 0 (by decide +kernel)]; exact hinv) | exact hE | (have hag := ‹mq_ag _ _ _›; exact e46_ag (by decide +kernel) (by decide +kernel) hag hE) | (have h2 := ‹mq_ag _ _ _›; have h1 : mq_ag _ μ' _ := (by assumption); exact e46_ag (by decide +kernel) (by decide +kernel) h2 (e46_ag (by decide +kernel) (by decide +kernel) h1 hE)) | (have h2 := ‹mq_ag _ _ _›; have h1 : mq_ag _ μ' _ := (by assumption); exact e46_keep h1 h2 hE (by assumption) (by assumption) (by assumption) (by assumption) (by assumption) (by assumption) (by decide +kernel) (by decide +kernel) (by decide +kernel)) | (have h1 : mq_ag _ μ' _ := (by assumption); have e9 := e46_back h1 hE (by assumption) (by assumption) (by assumption) (by assumption) (by decide +kernel) (by decide +kernel); omega)
set_option maxHeartbeats 16000000 in
set_option maxRecDepth 100000 in
theorem lq_1493 (N : Nat) (l : mq_L) (st : List mq_V) (ρ' : mq_R) (μ' : mq_M) (cs : Nat) (hJ : (match kq_law[63]? with | some q => q.2.2 (N + 1) l st ρ' μ' cs | none => False)) (hbk : mq_bok μ') (hrl : mq_rgl l) : mq_wp mq_fm mq_rg mq_rp pq_law lq_cl lq_md 1084 (fun v _ _ cs => v = 1 ∧ cs ≤ 1084) (mq_KK kq_law N) 400 (mq_seek 1493 pq_law) l st ρ' μ' cs := by
  obtain ⟨nw, sp, tl, tx, al⟩ := ρ'
  obtain ⟨i0, l0, rfl, hJ0⟩ := mq_tR_spec hJ
  obtain ⟨l1, rfl, hJ1⟩ := mq_tZ_spec hJ0
  obtain ⟨l2, rfl, hJ2⟩ := mq_tZ_spec hJ1
  obtain ⟨v3, l3, rfl, hJ3⟩ := mq_tI_spec hJ2
  obtain ⟨rfl, hJ4⟩ := mq_t0_spec hJ3
  clear hJ hJ0 hJ1 hJ2 hJ3
  obtain ⟨rfl, rfl, hcs, hc0, hc1, hc2, hc3, hinv, hE, hm0, hm1⟩ := hJ4
  obtain ⟨⟨hl3a, hl3b⟩, -⟩ := hrl
  repeat' (first | refine And.intro ?_ ?_ | intro _)
  all_goals try simp only [Int.reduceToNat, Int.reduceAdd, true_and, and_true, false_and, and_false, false_or, or_false, true_or, or_true, true_implies] at *
  all_goals first | omega | rfl | exact trivial | assumption | (have hag := ‹mq_ag _ _ _›; rw [mq_ag_at hag 97 0 (by decide +kernel)]; omega) | (have hag := ‹mq_ag _ _ _›; rw [mq_ag_at hag 69 0 (by decide +kernel), mq_ag_at hag 76 0 (by decide +kernel)]; assumption) | (have hag := ‹mq_ag _ _ _›; rw [mq_ag_at hag 69 0 (by decide +kernel), mq_ag_at hag 76 0 (by decide +kernel)]; exact hinv) | (have h1 : mq_ag _ μ' _ := (by assumption); simp only [mq_ag_at h1 97 0 (by decide +kernel)] at *; omega) | (have h2 := ‹mq_ag _ _ _›; have h1 : mq_ag _ μ' _ := (by assumption); rw [mq_ag_at h2 97 0 (by decide +kernel), mq_ag_at h1 97 0 (by decide +kernel)]; omega) | (have h2 := ‹mq_ag _ _ _›; have h1 : mq_ag _ μ' _ := (by assumption); rw [mq_ag_at h2 69 0 (by decide +kernel), mq_ag_at h2 76 0 (by decide +kernel), mq_ag_at h1 69 0 (by decide +kernel), mq_ag_at h1 76 0 (by decide +kernel)]; exact hinv) | exact hE | (have hag := ‹mq_ag _ _ _›; exact e46_ag (by decide +kernel) (by decide +kernel) hag hE) | (have h2 := ‹mq_ag _ _ _›; have h1 : mq_ag _ μ' _ := (by assumption); exact e46_ag (by decide +kernel) (by decide +kernel) h2 (e46_ag (by decide +kernel) (by decide +kernel) h1 hE)) | (have h2 := ‹mq_ag _ _ _›; have h1 : mq_ag _ μ' _ := (by assumption); exact e46_keep h1 h2 hE (by assumption) (by assumption) (by assumption) (by assumption) (by assumption) (by assumption) (by decide +kernel) (by decide +kernel) (by decide +kernel)) | (have h1 : mq_ag _ μ' _ := (by assumption); have e9 := e46_back h1 hE (by assumption) (by assumption) (by assumption) (by assumption) (by decide +kernel) (by decide +kernel); omega)
set_option maxHeartbeats 16000000 in
set_option maxRecDepth 100000 in
theorem lq_1508 (N : Nat) (l : mq_L) (st : List mq_V) (ρ' : mq_R) (μ' : mq_M) (cs : Nat) (hJ : (match kq_law[64]? with | some q => q.2.2 (N + 1) l st ρ' μ' cs | none => False)) (hbk : mq_bok μ') (hrl : mq_rgl l) : mq_wp mq_fm mq_rg mq_rp pq_law lq_cl lq_md 1084 (fun v _ _ cs => v = 1 ∧ cs ≤ 1084) (mq_KK kq_law N) 400 (mq_seek 1508 pq_law) l st ρ' μ' cs := by
  obtain ⟨nw, sp, tl, tx, al⟩ := ρ'
  obtain ⟨i0, l0, rfl, hJ0⟩ := mq_tR_spec hJ
  obtain ⟨l1, rfl, hJ1⟩ := mq_tZ_spec hJ0
  obtain ⟨l2, rfl, hJ2⟩ := mq_tZ_spec hJ1
  obtain ⟨v3, l3, rfl, hJ3⟩ := mq_tI_spec hJ2
  obtain ⟨rfl, hJ4⟩ := mq_t0_spec hJ3
  clear hJ hJ0 hJ1 hJ2 hJ3
  obtain ⟨rfl, rfl, hcs, hc0, hc1, hc2, hc3, hinv, hE, hm0, hm1⟩ := hJ4
  obtain ⟨⟨hl3a, hl3b⟩, -⟩ := hrl
  repeat' (first | refine And.intro ?_ ?_ | intro _)
  all_goals try simp only [Int.reduceToNat, Int.reduceAdd, true_and, and_true, false_and, and_false, false_or, or_false, true_or, or_true, true_implies] at *
  all_goals first | omega | rfl | exact trivial | assumption | (have hag := ‹mq_ag _ _ _›; rw [mq_ag_at hag 97 0 (by decide +kernel)]; omega) | (have hag := ‹mq_ag _ _ _›; rw [mq_ag_at hag 69 0 (by decide +kernel), mq_ag_at hag 76 0 (by decide +kernel)]; assumption) | (have hag := ‹mq_ag _ _ _›; rw [mq_ag_at hag 69 0 (by decide +kernel), mq_ag_at hag 76 0 (by decide +kernel)]; exact hinv) | (have h1 : mq_ag _ μ' _ := (by assumption); simp only [mq_ag_at h1 97 0 (by decide +kernel)] at *; omega) | (have h2 := ‹mq_ag _ _ _›; have h1 : mq_ag _ μ' _ := (by assumption); rw [mq_ag_at h2 97 0 (by decide +kernel), mq_ag_at h1 97 0 (by decide +kernel)]; omega) | (have h2 := ‹mq_ag _ _ _›; have h1 : mq_ag _ μ' _ := (by assumption); rw [mq_ag_at h2 69 0 (by decide +kernel), mq_ag_at h2 76 0 (by decide +kernel), mq_ag_at h1 69 0 (by decide +kernel), mq_ag_at h1 76 0 (by decide +kernel)]; exact hinv) | exact hE | (have hag := ‹mq_ag _ _ _›; exact e46_ag (by decide +kernel) (by decide +kernel) hag hE) | (have h2 := ‹mq_ag _ _ _›; have h1 : mq_ag _ μ' _ := (by assumption); exact e46_ag (by decide +kernel) (by decide +kernel) h2 (e46_ag (by decide +kernel) (by decide +kernel) h1 hE)) | (have h2 := ‹mq_ag _ _ _›; have h1 : mq_ag _ μ' _ := (by assumption); exact e46_keep h1 h2 hE (by assumption) (by assumption) (by assumption) (by assumption) (by assumption) (by assumption) (by decide +kernel) (by decide +kernel) (by decide +kernel)) | (have h1 : mq_ag _ μ' _ := (by assumption); have e9 := e46_back h1 hE (by assumption) (by assumption) (by assumption) (by assumption) (by decide +kernel) (by decide +kernel); omega)
set_option maxHeartbeats 16000000 in
set_option maxRecDepth 100000 in
theorem lq_1526 (N : Nat) (l : mq_L) (st : List mq_V) (ρ' : mq_R) (μ' : mq_M) (cs : Nat) (hJ : (match kq_law[65]? with | some q => q.2.2 (N + 1) l st ρ' μ' cs | none => False)) (hbk : mq_bok μ') (hrl : mq_rgl l) : mq_wp mq_fm mq_rg mq_rp pq_law lq_cl lq_md 1084 (fun v _ _ cs => v = 1 ∧ cs ≤ 1084) (mq_KK kq_law N) 400 (mq_seek 1526 pq_law) l st ρ' μ' cs := by
  obtain ⟨nw, sp, tl, tx, al⟩ := ρ'
  obtain ⟨i0, l0, rfl, hJ0⟩ := mq_tR_spec hJ
  obtain ⟨l1, rfl, hJ1⟩ := mq_tZ_spec hJ0
  obtain ⟨l2, rfl, hJ2⟩ := mq_tZ_spec hJ1
  obtain ⟨v3, l3, rfl, hJ3⟩ := mq_tI_spec hJ2
  obtain ⟨rfl, hJ4⟩ := mq_t0_spec hJ3
  clear hJ hJ0 hJ1 hJ2 hJ3
  obtain ⟨rfl, rfl, hcs, hc0, hc1, hc2, hc3, hinv, hE, hm0, hm1⟩ := hJ4
  obtain ⟨⟨hl3a, hl3b⟩, -⟩ := hrl
  repeat' (first | refine And.intro ?_ ?_ | intro _)
  all_goals try simp only [Int.reduceToNat, Int.reduceAdd, true_and, and_true, false_and, and_false, false_or, or_false, true_or, or_true, true_implies] at *
  all_goals first | omega | rfl | exact trivial | assumption | (have hag := ‹mq_ag _ _ _›; rw [mq_ag_at hag 97 0 (by decide +kernel)]; omega) | (have hag := ‹mq_ag _ _ _›; rw [mq_ag_at hag 69 0 (by decide +kernel), mq_ag_at hag 76 0 (by decide +kernel)]; assumption) | (have hag := ‹mq_ag _ _ _›; rw [mq_ag_at hag 69 0 (by decide +kernel), mq_ag_at hag 76 0 (by decide +kernel)]; exact hinv) | (have h1 : mq_ag _ μ' _ := (by assumption); simp only [mq_ag_at h1 97 0 (by decide +kernel)] at *; omega) | (have h2 := ‹mq_ag _ _ _›; have h1 : mq_ag _ μ' _ := (by assumption); rw [mq_ag_at h2 97 0 (by decide +kernel), mq_ag_at h1 97 0 (by decide +kernel)]; omega) | (have h2 := ‹mq_ag _ _ _›; have h1 : mq_ag _ μ' _ := (by assumption); rw [mq_ag_at h2 69 0 (by decide +kernel), mq_ag_at h2 76 0 (by decide +kernel), mq_ag_at h1 69 0 (by decide +kernel), mq_ag_at h1 76 0 (by decide +kernel)]; exact hinv) | exact hE | (have hag := ‹mq_ag _ _ _›; exact e46_ag (by decide +kernel) (by decide +kernel) hag hE) | (have h2 := ‹mq_ag _ _ _›; have h1 : mq_ag _ μ' _ := (by assumption); exact e46_ag (by decide +kernel) (by decide +kernel) h2 (e46_ag (by decide +kernel) (by decide +kernel) h1 hE)) | (have h2 := ‹mq_ag _ _ _›; have h1 : mq_ag _ μ' _ := (by assumption); exact e46_keep h1 h2 hE (by assumption) (by assumption) (by assumption) (by assumption) (by assumption) (by assumption) (by decide +kernel) (by decide +kernel) (by decide +kernel)) | (have h1 : mq_ag _ μ' _ := (by assumption); have e9 := e46_back h1 hE (by assumption) (by assumption) (by assumption) (by assumption) (by decide +kernel) (by decide +kernel); omega)
set_option maxHeartbeats 16000000 in
set_option maxRecDepth 100000 in
theorem lq_1536 (N : Nat) (l : mq_L) (st : List mq_V) (ρ' : mq_R) (μ' : mq_M) (cs : Nat) (hJ : (match kq_law[66]? with | some q => q.2.2 (N + 1) l st ρ' μ' cs | none => False)) (hbk : mq_bok μ') (hrl : mq_rgl l) : mq_wp mq_fm mq_rg mq_rp pq_law lq_cl lq_md 1084 (fun v _ _ cs => v = 1 ∧ cs ≤ 1084) (mq_KK kq_law N) 400 (mq_seek 1536 pq_law) l st ρ' μ' cs := by
  obtain ⟨nw, sp, tl, tx, al⟩ := ρ'
  obtain ⟨i0, l0, rfl, hJ0⟩ := mq_tR_spec hJ
  obtain ⟨l1, rfl, hJ1⟩ := mq_tZ_spec hJ0
  obtain ⟨l2, rfl, hJ2⟩ := mq_tZ_spec hJ1
  obtain ⟨v3, l3, rfl, hJ3⟩ := mq_tI_spec hJ2
  obtain ⟨rfl, hJ4⟩ := mq_t0_spec hJ3
  clear hJ hJ0 hJ1 hJ2 hJ3
  obtain ⟨rfl, rfl, hcs, hc0, hc1, hc2, hc3, hinv, hE, hm0, hm1⟩ := hJ4
  obtain ⟨⟨hl3a, hl3b⟩, -⟩ := hrl
  repeat' (first | refine And.intro ?_ ?_ | intro _)
  all_goals try simp only [Int.reduceToNat, Int.reduceAdd, true_and, and_true, false_and, and_false, false_or, or_false, true_or, or_true, true_implies] at *
  all_goals first | omega | rfl | exact trivial | assumption | (have hag := ‹mq_ag _ _ _›; rw [mq_ag_at hag 97 0 (by decide +kernel)]; omega) | (have hag := ‹mq_ag _ _ _›; rw [mq_ag_at hag 69 0 (by decide +kernel), mq_ag_at hag 76 0 (by decide +kernel)]; assumption) | (have hag := ‹mq_ag _ _ _›; rw [mq_ag_at hag 69 0 (by decide +kernel), mq_ag_at hag 76 0 (by decide +kernel)]; exact hinv) | (have h1 : mq_ag _ μ' _ := (by assumption); simp only [mq_ag_at h1 97 0 (by decide +kernel)] at *; omega) | (have h2 := ‹mq_ag _ _ _›; have h1 : mq_ag _ μ' _ := (by assumption); rw [mq_ag_at h2 97 0 (by decide +kernel), mq_ag_at h1 97 0 (by decide +kernel)]; omega) | (have h2 := ‹mq_ag _ _ _›; have h1 : mq_ag _ μ' _ := (by assumption); rw [mq_ag_at h2 69 0 (by decide +kernel), mq_ag_at h2 76 0 (by decide +kernel), mq_ag_at h1 69 0 (by decide +kernel), mq_ag_at h1 76 0 (by decide +kernel)]; exact hinv) | exact hE | (have hag := ‹mq_ag _ _ _›; exact e46_ag (by decide +kernel) (by decide +kernel) hag hE) | (have h2 := ‹mq_ag _ _ _›; have h1 : mq_ag _ μ' _ := (by assumption); exact e46_ag (by decide +kernel) (by decide +kernel) h2 (e46_ag (by decide +kernel) (by decide +kernel) h1 hE)) | (have h2 := ‹mq_ag _ _ _›; have h1 : mq_ag _ μ' _ := (by assumption); exact e46_keep h1 h2 hE (by assumption) (by assumption) (by assumption) (by assumption) (by assumption) (by assumption) (by decide +kernel) (by decide +kernel) (by decide +kernel)) | (have h1 : mq_ag _ μ' _ := (by assumption); have e9 := e46_back h1 hE (by assumption) (by assumption) (by assumption) (by assumption) (by decide +kernel) (by decide +kernel); omega)
set_option maxHeartbeats 16000000 in
set_option maxRecDepth 100000 in
theorem lq_1549 (N : Nat) (l : mq_L) (st : List mq_V) (ρ' : mq_R) (μ' : mq_M) (cs : Nat) (hJ : (match kq_law[67]? with | some q => q.2.2 (N + 1) l st ρ' μ' cs | none => False)) (hbk : mq_bok μ') (hrl : mq_rgl l) : mq_wp mq_fm mq_rg mq_rp pq_law lq_cl lq_md 1084 (fun v _ _ cs => v = 1 ∧ cs ≤ 1084) (mq_KK kq_law N) 400 (mq_seek 1549 pq_law) l st ρ' μ' cs := by
  obtain ⟨nw, sp, tl, tx, al⟩ := ρ'
  obtain ⟨i0, l0, rfl, hJ0⟩ := mq_tR_spec hJ
  obtain ⟨l1, rfl, hJ1⟩ := mq_tZ_spec hJ0
  obtain ⟨l2, rfl, hJ2⟩ := mq_tZ_spec hJ1
  obtain ⟨v3, l3, rfl, hJ3⟩ := mq_tI_spec hJ2
  obtain ⟨rfl, hJ4⟩ := mq_t0_spec hJ3
  clear hJ hJ0 hJ1 hJ2 hJ3
  obtain ⟨rfl, rfl, hcs, hc0, hc1, hc2, hc3, hinv, hE, hm0, hm1⟩ := hJ4
  obtain ⟨⟨hl3a, hl3b⟩, -⟩ := hrl
  repeat' (first | refine And.intro ?_ ?_ | intro _)
  all_goals try simp only [Int.reduceToNat, Int.reduceAdd, true_and, and_true, false_and, and_false, false_or, or_false, true_or, or_true, true_implies] at *
  all_goals first | omega | rfl | exact trivial | assumption | (have hag := ‹mq_ag _ _ _›; rw [mq_ag_at hag 97 0 (by decide +kernel)]; omega) | (have hag := ‹mq_ag _ _ _›; rw [mq_ag_at hag 69 0 (by decide +kernel), mq_ag_at hag 76 0 (by decide +kernel)]; assumption) | (have hag := ‹mq_ag _ _ _›; rw [mq_ag_at hag 69 0 (by decide +kernel), mq_ag_at hag 76 0 (by decide +kernel)]; exact hinv) | (have h1 : mq_ag _ μ' _ := (by assumption); simp only [mq_ag_at h1 97 0 (by decide +kernel)] at *; omega) | (have h2 := ‹mq_ag _ _ _›; have h1 : mq_ag _ μ' _ := (by assumption); rw [mq_ag_at h2 97 0 (by decide +kernel), mq_ag_at h1 97 0 (by decide +kernel)]; omega) | (have h2 := ‹mq_ag _ _ _›; have h1 : mq_ag _ μ' _ := (by assumption); rw [mq_ag_at h2 69 0 (by decide +kernel), mq_ag_at h2 76 0 (by decide +kernel), mq_ag_at h1 69 0 (by decide +kernel), mq_ag_at h1 76 0 (by decide +kernel)]; exact hinv) | exact hE | (have hag := ‹mq_ag _ _ _›; exact e46_ag (by decide +kernel) (by decide +kernel) hag hE) | (have h2 := ‹mq_ag _ _ _›; have h1 : mq_ag _ μ' _ := (by assumption); exact e46_ag (by decide +kernel) (by decide +kernel) h2 (e46_ag (by decide +kernel) (by decide +kernel) h1 hE)) | (have h2 := ‹mq_ag _ _ _›; have h1 : mq_ag _ μ' _ := (by assumption); exact e46_keep h1 h2 hE (by assumption) (by assumption) (by assumption) (by assumption) (by assumption) (by assumption) (by decide +kernel) (by decide +kernel) (by decide +kernel)) | (have h1 : mq_ag _ μ' _ := (by assumption); have e9 := e46_back h1 hE (by assumption) (by assumption) (by assumption) (by assumption) (by decide +kernel) (by decide +kernel); omega)
set_option maxHeartbeats 16000000 in
set_option maxRecDepth 100000 in
theorem lq_1559 (N : Nat) (l : mq_L) (st : List mq_V) (ρ' : mq_R) (μ' : mq_M) (cs : Nat) (hJ : (match kq_law[68]? with | some q => q.2.2 (N + 1) l st ρ' μ' cs | none => False)) (hbk : mq_bok μ') (hrl : mq_rgl l) : mq_wp mq_fm mq_rg mq_rp pq_law lq_cl lq_md 1084 (fun v _ _ cs => v = 1 ∧ cs ≤ 1084) (mq_KK kq_law N) 400 (mq_seek 1559 pq_law) l st ρ' μ' cs := by
  obtain ⟨nw, sp, tl, tx, al⟩ := ρ'
  obtain ⟨i0, l0, rfl, hJ0⟩ := mq_tR_spec hJ
  obtain ⟨l1, rfl, hJ1⟩ := mq_tZ_spec hJ0
  obtain ⟨l2, rfl, hJ2⟩ := mq_tZ_spec hJ1
  obtain ⟨v3, l3, rfl, hJ3⟩ := mq_tI_spec hJ2
  obtain ⟨rfl, hJ4⟩ := mq_t0_spec hJ3
  clear hJ hJ0 hJ1 hJ2 hJ3
  obtain ⟨rfl, rfl, hcs, hc0, hc1, hc2, hc3, hinv, hE, hm0, hm1⟩ := hJ4
  obtain ⟨⟨hl3a, hl3b⟩, -⟩ := hrl
  repeat' (first | refine And.intro ?_ ?_ | intro _)
  all_goals try simp only [Int.reduceToNat, Int.reduceAdd, true_and, and_true, false_and, and_false, false_or, or_false, true_or, or_true, true_implies] at *
  all_goals first | omega | rfl | exact trivial | assumption | (have hag := ‹mq_ag _ _ _›; rw [mq_ag_at hag 97 0 (by decide +kernel)]; omega) | (have hag := ‹mq_ag _ _ _›; rw [mq_ag_at hag 69 0 (by decide +kernel), mq_ag_at hag 76 0 (by decide +kernel)]; assumption) | (have hag := ‹mq_ag _ _ _›; rw [mq_ag_at hag 69 0 (by decide +kernel), mq_ag_at hag 76 0 (by decide +kernel)]; exact hinv) | (have h1 : mq_ag _ μ' _ := (by assumption); simp only [mq_ag_at h1 97 0 (by decide +kernel)] at *; omega) | (have h2 := ‹mq_ag _ _ _›; have h1 : mq_ag _ μ' _ := (by assumption); rw [mq_ag_at h2 97 0 (by decide +kernel), mq_ag_at h1 97 0 (by decide +kernel)]; omega) | (have h2 := ‹mq_ag _ _ _›; have h1 : mq_ag _ μ' _ := (by assumption); rw [mq_ag_at h2 69 0 (by decide +kernel), mq_ag_at h2 76 0 (by decide +kernel), mq_ag_at h1 69 0 (by decide +kernel), mq_ag_at h1 76 0 (by decide +kernel)]; exact hinv) | exact hE | (have hag := ‹mq_ag _ _ _›; exact e46_ag (by decide +kernel) (by decide +kernel) hag hE) | (have h2 := ‹mq_ag _ _ _›; have h1 : mq_ag _ μ' _ := (by assumption); exact e46_ag (by decide +kernel) (by decide +kernel) h2 (e46_ag (by decide +kernel) (by decide +kernel) h1 hE)) | (have h2 := ‹mq_ag _ _ _›; have h1 : mq_ag _ μ' _ := (by assumption); exact e46_keep h1 h2 hE (by assumption) (by assumption) (by assumption) (by assumption) (by assumption) (by assumption) (by decide +kernel) (by decide +kernel) (by decide +kernel)) | (have h1 : mq_ag _ μ' _ := (by assumption); have e9 := e46_back h1 hE (by assumption) (by assumption) (by assumption) (by assumption) (by decide +kernel) (by decide +kernel); omega)
set_option maxHeartbeats 16000000 in
set_option maxRecDepth 100000 in
theorem lq_1572 (N : Nat) (l : mq_L) (st : List mq_V) (ρ' : mq_R) (μ' : mq_M) (cs : Nat) (hJ : (match kq_law[69]? with | some q => q.2.2 (N + 1) l st ρ' μ' cs | none => False)) (hbk : mq_bok μ') (hrl : mq_rgl l) : mq_wp mq_fm mq_rg mq_rp pq_law lq_cl lq_md 1084 (fun v _ _ cs => v = 1 ∧ cs ≤ 1084) (mq_KK kq_law N) 400 (mq_seek 1572 pq_law) l st ρ' μ' cs := by
  obtain ⟨nw, sp, tl, tx, al⟩ := ρ'
  obtain ⟨i0, l0, rfl, hJ0⟩ := mq_tR_spec hJ
  obtain ⟨l1, rfl, hJ1⟩ := mq_tZ_spec hJ0
  obtain ⟨l2, rfl, hJ2⟩ := mq_tZ_spec hJ1
  obtain ⟨v3, l3, rfl, hJ3⟩ := mq_tI_spec hJ2
  obtain ⟨rfl, hJ4⟩ := mq_t0_spec hJ3
  clear hJ hJ0 hJ1 hJ2 hJ3
  obtain ⟨rfl, rfl, hcs, hc0, hc1, hc2, hc3, hinv, hE, hm0, hm1⟩ := hJ4
  obtain ⟨⟨hl3a, hl3b⟩, -⟩ := hrl
  repeat' (first | refine And.intro ?_ ?_ | intro _)
  all_goals try simp only [Int.reduceToNat, Int.reduceAdd, true_and, and_true, false_and, and_false, false_or, or_false, true_or, or_true, true_implies] at *
  all_goals first | omega | rfl | exact trivial | assumption | (have hag := ‹mq_ag _ _ _›; rw [mq_ag_at hag 97 0 (by decide +kernel)]; omega) | (have hag := ‹mq_ag _ _ _›; rw [mq_ag_at hag 69 0 (by decide +kernel), mq_ag_at hag 76 0 (by decide +kernel)]; assumption) | (have hag := ‹mq_ag _ _ _›; rw [mq_ag_at hag 69 0 (by decide +kernel), mq_ag_at hag 76 0 (by decide +kernel)]; exact hinv) | (have h1 : mq_ag _ μ' _ := (by assumption); simp only [mq_ag_at h1 97 0 (by decide +kernel)] at *; omega) | (have h2 := ‹mq_ag _ _ _›; have h1 : mq_ag _ μ' _ := (by assumption); rw [mq_ag_at h2 97 0 (by decide +kernel), mq_ag_at h1 97 0 (by decide +kernel)]; omega) | (have h2 := ‹mq_ag _ _ _›; have h1 : mq_ag _ μ' _ := (by assumption); rw [mq_ag_at h2 69 0 (by decide +kernel), mq_ag_at h2 76 0 (by decide +kernel), mq_ag_at h1 69 0 (by decide +kernel), mq_ag_at h1 76 0 (by decide +kernel)]; exact hinv) | exact hE | (have hag := ‹mq_ag _ _ _›; exact e46_ag (by decide +kernel) (by decide +kernel) hag hE) | (have h2 := ‹mq_ag _ _ _›; have h1 : mq_ag _ μ' _ := (by assumption); exact e46_ag (by decide +kernel) (by decide +kernel) h2 (e46_ag (by decide +kernel) (by decide +kernel) h1 hE)) | (have h2 := ‹mq_ag _ _ _›; have h1 : mq_ag _ μ' _ := (by assumption); exact e46_keep h1 h2 hE (by assumption) (by assumption) (by assumption) (by assumption) (by assumption) (by assumption) (by decide +kernel) (by decide +kernel) (by decide +kernel)) | (have h1 : mq_ag _ μ' _ := (by assumption); have e9 := e46_back h1 hE (by assumption) (by assumption) (by assumption) (by assumption) (by decide +kernel) (by decide +kernel); omega)
set_option maxHeartbeats 16000000 in
set_option maxRecDepth 100000 in
theorem lq_1587 (N : Nat) (l : mq_L) (st : List mq_V) (ρ' : mq_R) (μ' : mq_M) (cs : Nat) (hJ : (match kq_law[70]? with | some q => q.2.2 (N + 1) l st ρ' μ' cs | none => False)) (hbk : mq_bok μ') (hrl : mq_rgl l) : mq_wp mq_fm mq_rg mq_rp pq_law lq_cl lq_md 1084 (fun v _ _ cs => v = 1 ∧ cs ≤ 1084) (mq_KK kq_law N) 400 (mq_seek 1587 pq_law) l st ρ' μ' cs := by
  obtain ⟨nw, sp, tl, tx, al⟩ := ρ'
  obtain ⟨i0, l0, rfl, hJ0⟩ := mq_tR_spec hJ
  obtain ⟨l1, rfl, hJ1⟩ := mq_tZ_spec hJ0
  obtain ⟨l2, rfl, hJ2⟩ := mq_tZ_spec hJ1
  obtain ⟨v3, l3, rfl, hJ3⟩ := mq_tI_spec hJ2
  obtain ⟨rfl, hJ4⟩ := mq_t0_spec hJ3
  clear hJ hJ0 hJ1 hJ2 hJ3
  obtain ⟨rfl, rfl, hcs, hc0, hc1, hc2, hc3, hinv, hE, hm0, hm1⟩ := hJ4
  obtain ⟨⟨hl3a, hl3b⟩, -⟩ := hrl
  repeat' (first | refine And.intro ?_ ?_ | intro _)
  all_goals try simp only [Int.reduceToNat, Int.reduceAdd, true_and, and_true, false_and, and_false, false_or, or_false, true_or, or_true, true_implies] at *
  all_goals first | omega | rfl | exact trivial | assumption | (have hag := ‹mq_ag _ _ _›; rw [mq_ag_at hag 97 0 (by decide +kernel)]; omega) | (have hag := ‹mq_ag _ _ _›; rw [mq_ag_at hag 69 0 (by decide +kernel), mq_ag_at hag 76 0 (by decide +kernel)]; assumption) | (have hag := ‹mq_ag _ _ _›; rw [mq_ag_at hag 69 0 (by decide +kernel), mq_ag_at hag 76 0 (by decide +kernel)]; exact hinv) | (have h1 : mq_ag _ μ' _ := (by assumption); simp only [mq_ag_at h1 97 0 (by decide +kernel)] at *; omega) | (have h2 := ‹mq_ag _ _ _›; have h1 : mq_ag _ μ' _ := (by assumption); rw [mq_ag_at h2 97 0 (by decide +kernel), mq_ag_at h1 97 0 (by decide +kernel)]; omega) | (have h2 := ‹mq_ag _ _ _›; have h1 : mq_ag _ μ' _ := (by assumption); rw [mq_ag_at h2 69 0 (by decide +kernel), mq_ag_at h2 76 0 (by decide +kernel), mq_ag_at h1 69 0 (by decide +kernel), mq_ag_at h1 76 0 (by decide +kernel)]; exact hinv) | exact hE | (have hag := ‹mq_ag _ _ _›; exact e46_ag (by decide +kernel) (by decide +kernel) hag hE) | (have h2 := ‹mq_ag _ _ _›; have h1 : mq_ag _ μ' _ := (by assumption); exact e46_ag (by decide +kernel) (by decide +kernel) h2 (e46_ag (by decide +kernel) (by decide +kernel) h1 hE)) | (have h2 := ‹mq_ag _ _ _›; have h1 : mq_ag _ μ' _ := (by assumption); exact e46_keep h1 h2 hE (by assumption) (by assumption) (by assumption) (by assumption) (by assumption) (by assumption) (by decide +kernel) (by decide +kernel) (by decide +kernel)) | (have h1 : mq_ag _ μ' _ := (by assumption); have e9 := e46_back h1 hE (by assumption) (by assumption) (by assumption) (by assumption) (by decide +kernel) (by decide +kernel); omega)
set_option maxHeartbeats 16000000 in
set_option maxRecDepth 100000 in
theorem lq_1605 (N : Nat) (l : mq_L) (st : List mq_V) (ρ' : mq_R) (μ' : mq_M) (cs : Nat) (hJ : (match kq_law[71]? with | some q => q.2.2 (N + 1) l st ρ' μ' cs | none => False)) (hbk : mq_bok μ') (hrl : mq_rgl l) : mq_wp mq_fm mq_rg mq_rp pq_law lq_cl lq_md 1084 (fun v _ _ cs => v = 1 ∧ cs ≤ 1084) (mq_KK kq_law N) 400 (mq_seek 1605 pq_law) l st ρ' μ' cs := by
  obtain ⟨nw, sp, tl, tx, al⟩ := ρ'
  obtain ⟨i0, l0, rfl, hJ0⟩ := mq_tR_spec hJ
  obtain ⟨l1, rfl, hJ1⟩ := mq_tZ_spec hJ0
  obtain ⟨l2, rfl, hJ2⟩ := mq_tZ_spec hJ1
  obtain ⟨v3, l3, rfl, hJ3⟩ := mq_tI_spec hJ2
  obtain ⟨rfl, hJ4⟩ := mq_t0_spec hJ3
  clear hJ hJ0 hJ1 hJ2 hJ3
  obtain ⟨rfl, rfl, hcs, hc0, hc1, hc2, hc3, hinv, hE, hm0, hm1⟩ := hJ4
  obtain ⟨⟨hl3a, hl3b⟩, -⟩ := hrl
  repeat' (first | refine And.intro ?_ ?_ | intro _)
  all_goals try simp only [Int.reduceToNat, Int.reduceAdd, true_and, and_true, false_and, and_false, false_or, or_false, true_or, or_true, true_implies] at *
  all_goals first | omega | rfl | exact trivial | assumption | (have hag := ‹mq_ag _ _ _›; rw [mq_ag_at hag 97 0 (by decide +kernel)]; omega) | (have hag := ‹mq_ag _ _ _›; rw [mq_ag_at hag 69 0 (by decide +kernel), mq_ag_at hag 76 0 (by decide +kernel)]; assumption) | (have hag := ‹mq_ag _ _ _›; rw [mq_ag_at hag 69 0 (by decide +kernel), mq_ag_at hag 76 0 (by decide +kernel)]; exact hinv) | (have h1 : mq_ag _ μ' _ := (by assumption); simp only [mq_ag_at h1 97 0 (by decide +kernel)] at *; omega) | (have h2 := ‹mq_ag _ _ _›; have h1 : mq_ag _ μ' _ := (by assumption); rw [mq_ag_at h2 97 0 (by decide +kernel), mq_ag_at h1 97 0 (by decide +kernel)]; omega) | (have h2 := ‹mq_ag _ _ _›; have h1 : mq_ag _ μ' _ := (by assumption); rw [mq_ag_at h2 69 0 (by decide +kernel), mq_ag_at h2 76 0 (by decide +kernel), mq_ag_at h1 69 0 (by decide +kernel), mq_ag_at h1 76 0 (by decide +kernel)]; exact hinv) | exact hE | (have hag := ‹mq_ag _ _ _›; exact e46_ag (by decide +kernel) (by decide +kernel) hag hE) | (have h2 := ‹mq_ag _ _ _›; have h1 : mq_ag _ μ' _ := (by assumption); exact e46_ag (by decide +kernel) (by decide +kernel) h2 (e46_ag (by decide +kernel) (by decide +kernel) h1 hE)) | (have h2 := ‹mq_ag _ _ _›; have h1 : mq_ag _ μ' _ := (by assumption); exact e46_keep h1 h2 hE (by assumption) (by assumption) (by assumption) (by assumption) (by assumption) (by assumption) (by decide +kernel) (by decide +kernel) (by decide +kernel)) | (have h1 : mq_ag _ μ' _ := (by assumption); have e9 := e46_back h1 hE (by assumption) (by assumption) (by assumption) (by assumption) (by decide +kernel) (by decide +kernel); omega)
set_option maxHeartbeats 16000000 in
set_option maxRecDepth 100000 in
theorem lq_1620 (N : Nat) (l : mq_L) (st : List mq_V) (ρ' : mq_R) (μ' : mq_M) (cs : Nat) (hJ : (match kq_law[72]? with | some q => q.2.2 (N + 1) l st ρ' μ' cs | none => False)) (hbk : mq_bok μ') (hrl : mq_rgl l) : mq_wp mq_fm mq_rg mq_rp pq_law lq_cl lq_md 1084 (fun v _ _ cs => v = 1 ∧ cs ≤ 1084) (mq_KK kq_law N) 400 (mq_seek 1620 pq_law) l st ρ' μ' cs := by
  obtain ⟨nw, sp, tl, tx, al⟩ := ρ'
  obtain ⟨i0, l0, rfl, hJ0⟩ := mq_tR_spec hJ
  obtain ⟨l1, rfl, hJ1⟩ := mq_tZ_spec hJ0
  obtain ⟨l2, rfl, hJ2⟩ := mq_tZ_spec hJ1
  obtain ⟨v3, l3, rfl, hJ3⟩ := mq_tI_spec hJ2
  obtain ⟨rfl, hJ4⟩ := mq_t0_spec hJ3
  clear hJ hJ0 hJ1 hJ2 hJ3
  obtain ⟨rfl, rfl, hcs, hc0, hc1, hc2, hc3, hinv, hE, hm0, hm1⟩ := hJ4
  obtain ⟨⟨hl3a, hl3b⟩, -⟩ := hrl
  repeat' (first | refine And.intro ?_ ?_ | intro _)
  all_goals try simp only [Int.reduceToNat, Int.reduceAdd, true_and, and_true, false_and, and_false, false_or, or_false, true_or, or_true, true_implies] at *
  all_goals first | omega | rfl | exact trivial | assumption | (have hag := ‹mq_ag _ _ _›; rw [mq_ag_at hag 97 0 (by decide +kernel)]; omega) | (have hag := ‹mq_ag _ _ _›; rw [mq_ag_at hag 69 0 (by decide +kernel), mq_ag_at hag 76 0 (by decide +kernel)]; assumption) | (have hag := ‹mq_ag _ _ _›; rw [mq_ag_at hag 69 0 (by decide +kernel), mq_ag_at hag 76 0 (by decide +kernel)]; exact hinv) | (have h1 : mq_ag _ μ' _ := (by assumption); simp only [mq_ag_at h1 97 0 (by decide +kernel)] at *; omega) | (have h2 := ‹mq_ag _ _ _›; have h1 : mq_ag _ μ' _ := (by assumption); rw [mq_ag_at h2 97 0 (by decide +kernel), mq_ag_at h1 97 0 (by decide +kernel)]; omega) | (have h2 := ‹mq_ag _ _ _›; have h1 : mq_ag _ μ' _ := (by assumption); rw [mq_ag_at h2 69 0 (by decide +kernel), mq_ag_at h2 76 0 (by decide +kernel), mq_ag_at h1 69 0 (by decide +kernel), mq_ag_at h1 76 0 (by decide +kernel)]; exact hinv) | exact hE | (have hag := ‹mq_ag _ _ _›; exact e46_ag (by decide +kernel) (by decide +kernel) hag hE) | (have h2 := ‹mq_ag _ _ _›; have h1 : mq_ag _ μ' _ := (by assumption); exact e46_ag (by decide +kernel) (by decide +kernel) h2 (e46_ag (by decide +kernel) (by decide +kernel) h1 hE)) | (have h2 := ‹mq_ag _ _ _›; have h1 : mq_ag _ μ' _ := (by assumption); exact e46_keep h1 h2 hE (by assumption) (by assumption) (by assumption) (by assumption) (by assumption) (by assumption) (by decide +kernel) (by decide +kernel) (by decide +kernel)) | (have h1 : mq_ag _ μ' _ := (by assumption); have e9 := e46_back h1 hE (by assumption) (by assumption) (by assumption) (by assumption) (by decide +kernel) (by decide +kernel); omega)
set_option maxHeartbeats 16000000 in
set_option maxRecDepth 100000 in
theorem lq_1638 (N : Nat) (l : mq_L) (st : List mq_V) (ρ' : mq_R) (μ' : mq_M) (cs : Nat) (hJ : (match kq_law[73]? with | some q => q.2.2 (N + 1) l st ρ' μ' cs | none => False)) (hbk : mq_bok μ') (hrl : mq_rgl l) : mq_wp mq_fm mq_rg mq_rp pq_law lq_cl lq_md 1084 (fun v _ _ cs => v = 1 ∧ cs ≤ 1084) (mq_KK kq_law N) 400 (mq_seek 1638 pq_law) l st ρ' μ' cs := by
  obtain ⟨nw, sp, tl, tx, al⟩ := ρ'
  obtain ⟨i0, l0, rfl, hJ0⟩ := mq_tR_spec hJ
  obtain ⟨l1, rfl, hJ1⟩ := mq_tZ_spec hJ0
  obtain ⟨l2, rfl, hJ2⟩ := mq_tZ_spec hJ1
  obtain ⟨v3, l3, rfl, hJ3⟩ := mq_tI_spec hJ2
  obtain ⟨rfl, hJ4⟩ := mq_t0_spec hJ3
  clear hJ hJ0 hJ1 hJ2 hJ3
  obtain ⟨rfl, rfl, hcs, hc0, hc1, hc2, hc3, hinv, hE, hm0, hm1⟩ := hJ4
  obtain ⟨⟨hl3a, hl3b⟩, -⟩ := hrl
  repeat' (first | refine And.intro ?_ ?_ | intro _)
  all_goals try simp only [Int.reduceToNat, Int.reduceAdd, true_and, and_true, false_and, and_false, false_or, or_false, true_or, or_true, true_implies] at *
  all_goals first | omega | rfl | exact trivial | assumption | (have hag := ‹mq_ag _ _ _›; rw [mq_ag_at hag 97 0 (by decide +kernel)]; omega) | (have hag := ‹mq_ag _ _ _›; rw [mq_ag_at hag 69 0 (by decide +kernel), mq_ag_at hag 76 0 (by decide +kernel)]; assumption) | (have hag := ‹mq_ag _ _ _›; rw [mq_ag_at hag 69 0 (by decide +kernel), mq_ag_at hag 76 0 (by decide +kernel)]; exact hinv) | (have h1 : mq_ag _ μ' _ := (by assumption); simp only [mq_ag_at h1 97 0 (by decide +kernel)] at *; omega) | (have h2 := ‹mq_ag _ _ _›; have h1 : mq_ag _ μ' _ := (by assumption); rw [mq_ag_at h2 97 0 (by decide +kernel), mq_ag_at h1 97 0 (by decide +kernel)]; omega) | (have h2 := ‹mq_ag _ _ _›; have h1 : mq_ag _ μ' _ := (by assumption); rw [mq_ag_at h2 69 0 (by decide +kernel), mq_ag_at h2 76 0 (by decide +kernel), mq_ag_at h1 69 0 (by decide +kernel), mq_ag_at h1 76 0 (by decide +kernel)]; exact hinv) | exact hE | (have hag := ‹mq_ag _ _ _›; exact e46_ag (by decide +kernel) (by decide +kernel) hag hE) | (have h2 := ‹mq_ag _ _ _›; have h1 : mq_ag _ μ' _ := (by assumption); exact e46_ag (by decide +kernel) (by decide +kernel) h2 (e46_ag (by decide +kernel) (by decide +kernel) h1 hE)) | (have h2 := ‹mq_ag _ _ _›; have h1 : mq_ag _ μ' _ := (by assumption); exact e46_keep h1 h2 hE (by assumption) (by assumption) (by assumption) (by assumption) (by assumption) (by assumption) (by decide +kernel) (by decide +kernel) (by decide +kernel)) | (have h1 : mq_ag _ μ' _ := (by assumption); have e9 := e46_back h1 hE (by assumption) (by assumption) (by assumption) (by assumption) (by decide +kernel) (by decide +kernel); omega)
set_option maxHeartbeats 16000000 in
set_option maxRecDepth 100000 in
theorem lq_1648 (N : Nat) (l : mq_L) (st : List mq_V) (ρ' : mq_R) (μ' : mq_M) (cs : Nat) (hJ : (match kq_law[74]? with | some q => q.2.2 (N + 1) l st ρ' μ' cs | none => False)) (hbk : mq_bok μ') (hrl : mq_rgl l) : mq_wp mq_fm mq_rg mq_rp pq_law lq_cl lq_md 1084 (fun v _ _ cs => v = 1 ∧ cs ≤ 1084) (mq_KK kq_law N) 400 (mq_seek 1648 pq_law) l st ρ' μ' cs := by
  obtain ⟨nw, sp, tl, tx, al⟩ := ρ'
  obtain ⟨i0, l0, rfl, hJ0⟩ := mq_tR_spec hJ
  obtain ⟨l1, rfl, hJ1⟩ := mq_tZ_spec hJ0
  obtain ⟨l2, rfl, hJ2⟩ := mq_tZ_spec hJ1
  obtain ⟨v3, l3, rfl, hJ3⟩ := mq_tI_spec hJ2
  obtain ⟨rfl, hJ4⟩ := mq_t0_spec hJ3
  clear hJ hJ0 hJ1 hJ2 hJ3
  obtain ⟨rfl, rfl, hcs, hc0, hc1, hc2, hc3, hinv, hE, hm0, hm1⟩ := hJ4
  obtain ⟨⟨hl3a, hl3b⟩, -⟩ := hrl
  repeat' (first | refine And.intro ?_ ?_ | intro _)
  all_goals try simp only [Int.reduceToNat, Int.reduceAdd, true_and, and_true, false_and, and_false, false_or, or_false, true_or, or_true, true_implies] at *
  all_goals first | omega | rfl | exact trivial | assumption | (have hag := ‹mq_ag _ _ _›; rw [mq_ag_at hag 97 0 (by decide +kernel)]; omega) | (have hag := ‹mq_ag _ _ _›; rw [mq_ag_at hag 69 0 (by decide +kernel), mq_ag_at hag 76 0 (by decide +kernel)]; assumption) | (have hag := ‹mq_ag _ _ _›; rw [mq_ag_at hag 69 0 (by decide +kernel), mq_ag_at hag 76 0 (by decide +kernel)]; exact hinv) | (have h1 : mq_ag _ μ' _ := (by assumption); simp only [mq_ag_at h1 97 0 (by decide +kernel)] at *; omega) | (have h2 := ‹mq_ag _ _ _›; have h1 : mq_ag _ μ' _ := (by assumption); rw [mq_ag_at h2 97 0 (by decide +kernel), mq_ag_at h1 97 0 (by decide +kernel)]; omega) | (have h2 := ‹mq_ag _ _ _›; have h1 : mq_ag _ μ' _ := (by assumption); rw [mq_ag_at h2 69 0 (by decide +kernel), mq_ag_at h2 76 0 (by decide +kernel), mq_ag_at h1 69 0 (by decide +kernel), mq_ag_at h1 76 0 (by decide +kernel)]; exact hinv) | exact hE | (have hag := ‹mq_ag _ _ _›; exact e46_ag (by decide +kernel) (by decide +kernel) hag hE) | (have h2 := ‹mq_ag _ _ _›; have h1 : mq_ag _ μ' _ := (by assumption); exact e46_ag (by decide +kernel) (by decide +kernel) h2 (e46_ag (by decide +kernel) (by decide +kernel) h1 hE)) | (have h2 := ‹mq_ag _ _ _›; have h1 : mq_ag _ μ' _ := (by assumption); exact e46_keep h1 h2 hE (by assumption) (by assumption) (by assumption) (by assumption) (by assumption) (by assumption) (by decide +kernel) (by decide +kernel) (by decide +kernel)) | (have h1 : mq_ag _ μ' _ := (by assumption); have e9 := e46_back h1 hE (by assumption) (by assumption) (by assumption) (by assumption) (by decide +kernel) (by decide +kernel); omega)
set_option maxHeartbeats 16000000 in
set_option maxRecDepth 100000 in
theorem lq_1661 (N : Nat) (l : mq_L) (st : List mq_V) (ρ' : mq_R) (μ' : mq_M) (cs : Nat) (hJ : (match kq_law[75]? with | some q => q.2.2 (N + 1) l st ρ' μ' cs | none => False)) (hbk : mq_bok μ') (hrl : mq_rgl l) : mq_wp mq_fm mq_rg mq_rp pq_law lq_cl lq_md 1084 (fun v _ _ cs => v = 1 ∧ cs ≤ 1084) (mq_KK kq_law N) 400 (mq_seek 1661 pq_law) l st ρ' μ' cs := by
  obtain ⟨nw, sp, tl, tx, al⟩ := ρ'
  obtain ⟨i0, l0, rfl, hJ0⟩ := mq_tR_spec hJ
  obtain ⟨l1, rfl, hJ1⟩ := mq_tZ_spec hJ0
  obtain ⟨l2, rfl, hJ2⟩ := mq_tZ_spec hJ1
  obtain ⟨v3, l3, rfl, hJ3⟩ := mq_tI_spec hJ2
  obtain ⟨rfl, hJ4⟩ := mq_t0_spec hJ3
  clear hJ hJ0 hJ1 hJ2 hJ3
  obtain ⟨rfl, rfl, hcs, hc0, hc1, hc2, hc3, hinv, hE, hm0, hm1⟩ := hJ4
  obtain ⟨⟨hl3a, hl3b⟩, -⟩ := hrl
  repeat' (first | refine And.intro ?_ ?_ | intro _)
  all_goals try simp only [Int.reduceToNat, Int.reduceAdd, true_and, and_true, false_and, and_false, false_or, or_false, true_or, or_true, true_implies] at *
  all_goals first | omega | rfl | exact trivial | assumption | (have hag := ‹mq_ag _ _ _›; rw [mq_ag_at hag 97 0 (by decide +kernel)]; omega) | (have hag := ‹mq_ag _ _ _›; rw [mq_ag_at hag 69 0 (by decide +kernel), mq_ag_at hag 76 0 (by decide +kernel)]; assumption) | (have hag := ‹mq_ag _ _ _›; rw [mq_ag_at hag 69 0 (by decide +kernel), mq_ag_at hag 76 0 (by decide +kernel)]; exact hinv) | (have h1 : mq_ag _ μ' _ := (by assumption); simp only [mq_ag_at h1 97 0 (by decide +kernel)] at *; omega) | (have h2 := ‹mq_ag _ _ _›; have h1 : mq_ag _ μ' _ := (by assumption); rw [mq_ag_at h2 97 0 (by decide +kernel), mq_ag_at h1 97 0 (by decide +kernel)]; omega) | (have h2 := ‹mq_ag _ _ _›; have h1 : mq_ag _ μ' _ := (by assumption); rw [mq_ag_at h2 69 0 (by decide +kernel), mq_ag_at h2 76 0 (by decide +kernel), mq_ag_at h1 69 0 (by decide +kernel), mq_ag_at h1 76 0 (by decide +kernel)]; exact hinv) | exact hE | (have hag := ‹mq_ag _ _ _›; exact e46_ag (by decide +kernel) (by decide +kernel) hag hE) | (have h2 := ‹mq_ag _ _ _›; have h1 : mq_ag _ μ' _ := (by assumption); exact e46_ag (by decide +kernel) (by decide +kernel) h2 (e46_ag (by decide +kernel) (by decide +kernel) h1 hE)) | (have h2 := ‹mq_ag _ _ _›; have h1 : mq_ag _ μ' _ := (by assumption); exact e46_keep h1 h2 hE (by assumption) (by assumption) (by assumption) (by assumption) (by assumption) (by assumption) (by decide +kernel) (by decide +kernel) (by decide +kernel)) | (have h1 : mq_ag _ μ' _ := (by assumption); have e9 := e46_back h1 hE (by assumption) (by assumption) (by assumption) (by assumption) (by decide +kernel) (by decide +kernel); omega)
set_option maxHeartbeats 16000000 in
set_option maxRecDepth 100000 in
theorem lq_1676 (N : Nat) (l : mq_L) (st : List mq_V) (ρ' : mq_R) (μ' : mq_M) (cs : Nat) (hJ : (match kq_law[76]? with | some q => q.2.2 (N + 1) l st ρ' μ' cs | none => False)) (hbk : mq_bok μ') (hrl : mq_rgl l) : mq_wp mq_fm mq_rg mq_rp pq_law lq_cl lq_md 1084 (fun v _ _ cs => v = 1 ∧ cs ≤ 1084) (mq_KK kq_law N) 400 (mq_seek 1676 pq_law) l st ρ' μ' cs := by
  obtain ⟨nw, sp, tl, tx, al⟩ := ρ'
  obtain ⟨i0, l0, rfl, hJ0⟩ := mq_tR_spec hJ
  obtain ⟨l1, rfl, hJ1⟩ := mq_tZ_spec hJ0
  obtain ⟨l2, rfl, hJ2⟩ := mq_tZ_spec hJ1
  obtain ⟨v3, l3, rfl, hJ3⟩ := mq_tI_spec hJ2
  obtain ⟨rfl, hJ4⟩ := mq_t0_spec hJ3
  clear hJ hJ0 hJ1 hJ2 hJ3
  obtain ⟨rfl, rfl, hcs, hc0, hc1, hc2, hc3, hinv, hE, hm0, hm1⟩ := hJ4
  obtain ⟨⟨hl3a, hl3b⟩, -⟩ := hrl
  repeat' (first | refine And.intro ?_ ?_ | intro _)
  all_goals try simp only [Int.reduceToNat, Int.reduceAdd, true_and, and_true, false_and, and_false, false_or, or_false, true_or, or_true, true_implies] at *
  all_goals first | omega | rfl | exact trivial | assumption | (have hag := ‹mq_ag _ _ _›; rw [mq_ag_at hag 97 0 (by decide +kernel)]; omega) | (have hag := ‹mq_ag _ _ _›; rw [mq_ag_at hag 69 0 (by decide +kernel), mq_ag_at hag 76 0 (by decide +kernel)]; assumption) | (have hag := ‹mq_ag _ _ _›; rw [mq_ag_at hag 69 0 (by decide +kernel), mq_ag_at hag 76 0 (by decide +kernel)]; exact hinv) | (have h1 : mq_ag _ μ' _ := (by assumption); simp only [mq_ag_at h1 97 0 (by decide +kernel)] at *; omega) | (have h2 := ‹mq_ag _ _ _›; have h1 : mq_ag _ μ' _ := (by assumption); rw [mq_ag_at h2 97 0 (by decide +kernel), mq_ag_at h1 97 0 (by decide +kernel)]; omega) | (have h2 := ‹mq_ag _ _ _›; have h1 : mq_ag _ μ' _ := (by assumption); rw [mq_ag_at h2 69 0 (by decide +kernel), mq_ag_at h2 76 0 (by decide +kernel), mq_ag_at h1 69 0 (by decide +kernel), mq_ag_at h1 76 0 (by decide +kernel)]; exact hinv) | exact hE | (have hag := ‹mq_ag _ _ _›; exact e46_ag (by decide +kernel) (by decide +kernel) hag hE) | (have h2 := ‹mq_ag _ _ _›; have h1 : mq_ag _ μ' _ := (by assumption); exact e46_ag (by decide +kernel) (by decide +kernel) h2 (e46_ag (by decide +kernel) (by decide +kernel) h1 hE)) | (have h2 := ‹mq_ag _ _ _›; have h1 : mq_ag _ μ' _ := (by assumption); exact e46_keep h1 h2 hE (by assumption) (by assumption) (by assumption) (by assumption) (by assumption) (by assumption) (by decide +kernel) (by decide +kernel) (by decide +kernel)) | (have h1 : mq_ag _ μ' _ := (by assumption); have e9 := e46_back h1 hE (by assumption) (by assumption) (by assumption) (by assumption) (by decide +kernel) (by decide +kernel); omega)
set_option maxHeartbeats 16000000 in
set_option maxRecDepth 100000 in
theorem lq_1694 (N : Nat) (l : mq_L) (st : List mq_V) (ρ' : mq_R) (μ' : mq_M) (cs : Nat) (hJ : (match kq_law[77]? with | some q => q.2.2 (N + 1) l st ρ' μ' cs | none => False)) (hbk : mq_bok μ') (hrl : mq_rgl l) : mq_wp mq_fm mq_rg mq_rp pq_law lq_cl lq_md 1084 (fun v _ _ cs => v = 1 ∧ cs ≤ 1084) (mq_KK kq_law N) 400 (mq_seek 1694 pq_law) l st ρ' μ' cs := by
  obtain ⟨nw, sp, tl, tx, al⟩ := ρ'
  obtain ⟨i0, l0, rfl, hJ0⟩ := mq_tR_spec hJ
  obtain ⟨l1, rfl, hJ1⟩ := mq_tZ_spec hJ0
  obtain ⟨l2, rfl, hJ2⟩ := mq_tZ_spec hJ1
  obtain ⟨v3, l3, rfl, hJ3⟩ := mq_tI_spec hJ2
  obtain ⟨rfl, hJ4⟩ := mq_t0_spec hJ3
  clear hJ hJ0 hJ1 hJ2 hJ3
  obtain ⟨rfl, rfl, hcs, hc0, hc1, hc2, hc3, hinv, hE, hm0, hm1⟩ := hJ4
  obtain ⟨⟨hl3a, hl3b⟩, -⟩ := hrl
  repeat' (first | refine And.intro ?_ ?_ | intro _)
  all_goals try simp only [Int.reduceToNat, Int.reduceAdd, true_and, and_true, false_and, and_false, false_or, or_false, true_or, or_true, true_implies] at *
  all_goals first | omega | rfl | exact trivial | assumption | (have hag := ‹mq_ag _ _ _›; rw [mq_ag_at hag 97 0 (by decide +kernel)]; omega) | (have hag := ‹mq_ag _ _ _›; rw [mq_ag_at hag 69 0 (by decide +kernel), mq_ag_at hag 76 0 (by decide +kernel)]; assumption) | (have hag := ‹mq_ag _ _ _›; rw [mq_ag_at hag 69 0 (by decide +kernel), mq_ag_at hag 76 0 (by decide +kernel)]; exact hinv) | (have h1 : mq_ag _ μ' _ := (by assumption); simp only [mq_ag_at h1 97 0 (by decide +kernel)] at *; omega) | (have h2 := ‹mq_ag _ _ _›; have h1 : mq_ag _ μ' _ := (by assumption); rw [mq_ag_at h2 97 0 (by decide +kernel), mq_ag_at h1 97 0 (by decide +kernel)]; omega) | (have h2 := ‹mq_ag _ _ _›; have h1 : mq_ag _ μ' _ := (by assumption); rw [mq_ag_at h2 69 0 (by decide +kernel), mq_ag_at h2 76 0 (by decide +kernel), mq_ag_at h1 69 0 (by decide +kernel), mq_ag_at h1 76 0 (by decide +kernel)]; exact hinv) | exact hE | (have hag := ‹mq_ag _ _ _›; exact e46_ag (by decide +kernel) (by decide +kernel) hag hE) | (have h2 := ‹mq_ag _ _ _›; have h1 : mq_ag _ μ' _ := (by assumption); exact e46_ag (by decide +kernel) (by decide +kernel) h2 (e46_ag (by decide +kernel) (by decide +kernel) h1 hE)) | (have h2 := ‹mq_ag _ _ _›; have h1 : mq_ag _ μ' _ := (by assumption); exact e46_keep h1 h2 hE (by assumption) (by assumption) (by assumption) (by assumption) (by assumption) (by assumption) (by decide +kernel) (by decide +kernel) (by decide +kernel)) | (have h1 : mq_ag _ μ' _ := (by assumption); have e9 := e46_back h1 hE (by assumption) (by assumption) (by assumption) (by assumption) (by decide +kernel) (by decide +kernel); omega)
set_option maxHeartbeats 16000000 in
set_option maxRecDepth 100000 in
theorem lq_1704 (N : Nat) (l : mq_L) (st : List mq_V) (ρ' : mq_R) (μ' : mq_M) (cs : Nat) (hJ : (match kq_law[78]? with | some q => q.2.2 (N + 1) l st ρ' μ' cs | none => False)) (hbk : mq_bok μ') (hrl : mq_rgl l) : mq_wp mq_fm mq_rg mq_rp pq_law lq_cl lq_md 1084 (fun v _ _ cs => v = 1 ∧ cs ≤ 1084) (mq_KK kq_law N) 400 (mq_seek 1704 pq_law) l st ρ' μ' cs := by
  obtain ⟨nw, sp, tl, tx, al⟩ := ρ'
  obtain ⟨i0, l0, rfl, hJ0⟩ := mq_tR_spec hJ
  obtain ⟨l1, rfl, hJ1⟩ := mq_tZ_spec hJ0
  obtain ⟨l2, rfl, hJ2⟩ := mq_tZ_spec hJ1
  obtain ⟨v3, l3, rfl, hJ3⟩ := mq_tI_spec hJ2
  obtain ⟨rfl, hJ4⟩ := mq_t0_spec hJ3
  clear hJ hJ0 hJ1 hJ2 hJ3
  obtain ⟨rfl, rfl, hcs, hc0, hc1, hc2, hc3, hinv, hE, hm0, hm1⟩ := hJ4
  obtain ⟨⟨hl3a, hl3b⟩, -⟩ := hrl
  repeat' (first | refine And.intro ?_ ?_ | intro _)
  all_goals try simp only [Int.reduceToNat, Int.reduceAdd, true_and, and_true, false_and, and_false, false_or, or_false, true_or, or_true, true_implies] at *
  all_goals first | omega | rfl | exact trivial | assumption | (have hag := ‹mq_ag _ _ _›; rw [mq_ag_at hag 97 0 (by decide +kernel)]; omega) | (have hag := ‹mq_ag _ _ _›; rw [mq_ag_at hag 69 0 (by decide +kernel), mq_ag_at hag 76 0 (by decide +kernel)]; assumption) | (have hag := ‹mq_ag _ _ _›; rw [mq_ag_at hag 69 0 (by decide +kernel), mq_ag_at hag 76 0 (by decide +kernel)]; exact hinv) | (have h1 : mq_ag _ μ' _ := (by assumption); simp only [mq_ag_at h1 97 0 (by decide +kernel)] at *; omega) | (have h2 := ‹mq_ag _ _ _›; have h1 : mq_ag _ μ' _ := (by assumption); rw [mq_ag_at h2 97 0 (by decide +kernel), mq_ag_at h1 97 0 (by decide +kernel)]; omega) | (have h2 := ‹mq_ag _ _ _›; have h1 : mq_ag _ μ' _ := (by assumption); rw [mq_ag_at h2 69 0 (by decide +kernel), mq_ag_at h2 76 0 (by decide +kernel), mq_ag_at h1 69 0 (by decide +kernel), mq_ag_at h1 76 0 (by decide +kernel)]; exact hinv) | exact hE | (have hag := ‹mq_ag _ _ _›; exact e46_ag (by decide +kernel) (by decide +kernel) hag hE) | (have h2 := ‹mq_ag _ _ _›; have h1 : mq_ag _ μ' _ := (by assumption); exact e46_ag (by decide +kernel) (by decide +kernel) h2 (e46_ag (by decide +kernel) (by decide +kernel) h1 hE)) | (have h2 := ‹mq_ag _ _ _›; have h1 : mq_ag _ μ' _ := (by assumption); exact e46_keep h1 h2 hE (by assumption) (by assumption) (by assumption) (by assumption) (by assumption) (by assumption) (by decide +kernel) (by decide +kernel) (by decide +kernel)) | (have h1 : mq_ag _ μ' _ := (by assumption); have e9 := e46_back h1 hE (by assumption) (by assumption) (by assumption) (by assumption) (by decide +kernel) (by decide +kernel); omega)
set_option maxHeartbeats 16000000 in
set_option maxRecDepth 100000 in
theorem lq_1717 (N : Nat) (l : mq_L) (st : List mq_V) (ρ' : mq_R) (μ' : mq_M) (cs : Nat) (hJ : (match kq_law[79]? with | some q => q.2.2 (N + 1) l st ρ' μ' cs | none => False)) (hbk : mq_bok μ') (hrl : mq_rgl l) : mq_wp mq_fm mq_rg mq_rp pq_law lq_cl lq_md 1084 (fun v _ _ cs => v = 1 ∧ cs ≤ 1084) (mq_KK kq_law N) 400 (mq_seek 1717 pq_law) l st ρ' μ' cs := by
  obtain ⟨nw, sp, tl, tx, al⟩ := ρ'
  obtain ⟨i0, l0, rfl, hJ0⟩ := mq_tR_spec hJ
  obtain ⟨l1, rfl, hJ1⟩ := mq_tZ_spec hJ0
  obtain ⟨l2, rfl, hJ2⟩ := mq_tZ_spec hJ1
  obtain ⟨v3, l3, rfl, hJ3⟩ := mq_tI_spec hJ2
  obtain ⟨rfl, hJ4⟩ := mq_t0_spec hJ3
  clear hJ hJ0 hJ1 hJ2 hJ3
  obtain ⟨rfl, rfl, hcs, hc0, hc1, hc2, hc3, hinv, hE, hm0, hm1⟩ := hJ4
  obtain ⟨⟨hl3a, hl3b⟩, -⟩ := hrl
  repeat' (first | refine And.intro ?_ ?_ | intro _)
  all_goals try simp only [Int.reduceToNat, Int.reduceAdd, true_and, and_true, false_and, and_false, false_or, or_false, true_or, or_true, true_implies] at *
  all_goals first | omega | rfl | exact trivial | assumption | (have hag := ‹mq_ag _ _ _›; rw [mq_ag_at hag 97 0 (by decide +kernel)]; omega) | (have hag := ‹mq_ag _ _ _›; rw [mq_ag_at hag 69 0 (by decide +kernel), mq_ag_at hag 76 0 (by decide +kernel)]; assumption) | (have hag := ‹mq_ag _ _ _›; rw [mq_ag_at hag 69 0 (by decide +kernel), mq_ag_at hag 76 0 (by decide +kernel)]; exact hinv) | (have h1 : mq_ag _ μ' _ := (by assumption); simp only [mq_ag_at h1 97 0 (by decide +kernel)] at *; omega) | (have h2 := ‹mq_ag _ _ _›; have h1 : mq_ag _ μ' _ := (by assumption); rw [mq_ag_at h2 97 0 (by decide +kernel), mq_ag_at h1 97 0 (by decide +kernel)]; omega) | (have h2 := ‹mq_ag _ _ _›; have h1 : mq_ag _ μ' _ := (by assumption); rw [mq_ag_at h2 69 0 (by decide +kernel), mq_ag_at h2 76 0 (by decide +kernel), mq_ag_at h1 69 0 (by decide +kernel), mq_ag_at h1 76 0 (by decide +kernel)]; exact hinv) | exact hE | (have hag := ‹mq_ag _ _ _›; exact e46_ag (by decide +kernel) (by decide +kernel) hag hE) | (have h2 := ‹mq_ag _ _ _›; have h1 : mq_ag _ μ' _ := (by assumption); exact e46_ag (by decide +kernel) (by decide +kernel) h2 (e46_ag (by decide +kernel) (by decide +kernel) h1 hE)) | (have h2 := ‹mq_ag _ _ _›; have h1 : mq_ag _ μ' _ := (by assumption); exact e46_keep h1 h2 hE (by assumption) (by assumption) (by assumption) (by assumption) (by assumption) (by assumption) (by decide +kernel) (by decide +kernel) (by decide +kernel)) | (have h1 : mq_ag _ μ' _ := (by assumption); have e9 := e46_back h1 hE (by assumption) (by assumption) (by assumption) (by assumption) (by decide +kernel) (by decide +kernel); omega)
set_option maxHeartbeats 16000000 in
set_option maxRecDepth 100000 in
theorem lq_1732 (N : Nat) (l : mq_L) (st : List mq_V) (ρ' : mq_R) (μ' : mq_M) (cs : Nat) (hJ : (match kq_law[80]? with | some q => q.2.2 (N + 1) l st ρ' μ' cs | none => False)) (hbk : mq_bok μ') (hrl : mq_rgl l) : mq_wp mq_fm mq_rg mq_rp pq_law lq_cl lq_md 1084 (fun v _ _ cs => v = 1 ∧ cs ≤ 1084) (mq_KK kq_law N) 400 (mq_seek 1732 pq_law) l st ρ' μ' cs := by
  obtain ⟨nw, sp, tl, tx, al⟩ := ρ'
  obtain ⟨i0, l0, rfl, hJ0⟩ := mq_tR_spec hJ
  obtain ⟨l1, rfl, hJ1⟩ := mq_tZ_spec hJ0
  obtain ⟨l2, rfl, hJ2⟩ := mq_tZ_spec hJ1
  obtain ⟨v3, l3, rfl, hJ3⟩ := mq_tI_spec hJ2
  obtain ⟨rfl, hJ4⟩ := mq_t0_spec hJ3
  clear hJ hJ0 hJ1 hJ2 hJ3
  obtain ⟨rfl, rfl, hcs, hc0, hc1, hc2, hc3, hinv, hE, hm0, hm1⟩ := hJ4
  obtain ⟨⟨hl3a, hl3b⟩, -⟩ := hrl
  repeat' (first | refine And.intro ?_ ?_ | intro _)
  all_goals try simp only [Int.reduceToNat, Int.reduceAdd, true_and, and_true, false_and, and_false, false_or, or_false, true_or, or_true, true_implies] at *
  all_goals first | omega | rfl | exact trivial | assumption | (have hag := ‹mq_ag _ _ _›; rw [mq_ag_at hag 97 0 (by decide +kernel)]; omega) | (have hag := ‹mq_ag _ _ _›; rw [mq_ag_at hag 69 0 (by decide +kernel), mq_ag_at hag 76 0 (by decide +kernel)]; assumption) | (have hag := ‹mq_ag _ _ _›; rw [mq_ag_at hag 69 0 (by decide +kernel), mq_ag_at hag 76 0 (by decide +kernel)]; exact hinv) | (have h1 : mq_ag _ μ' _ := (by assumption); simp only [mq_ag_at h1 97 0 (by decide +kernel)] at *; omega) | (have h2 := ‹mq_ag _ _ _›; have h1 : mq_ag _ μ' _ := (by assumption); rw [mq_ag_at h2 97 0 (by decide +kernel), mq_ag_at h1 97 0 (by decide +kernel)]; omega) | (have h2 := ‹mq_ag _ _ _›; have h1 : mq_ag _ μ' _ := (by assumption); rw [mq_ag_at h2 69 0 (by decide +kernel), mq_ag_at h2 76 0 (by decide +kernel), mq_ag_at h1 69 0 (by decide +kernel), mq_ag_at h1 76 0 (by decide +kernel)]; exact hinv) | exact hE | (have hag := ‹mq_ag _ _ _›; exact e46_ag (by decide +kernel) (by decide +kernel) hag hE) | (have h2 := ‹mq_ag _ _ _›; have h1 : mq_ag _ μ' _ := (by assumption); exact e46_ag (by decide +kernel) (by decide +kernel) h2 (e46_ag (by decide +kernel) (by decide +kernel) h1 hE)) | (have h2 := ‹mq_ag _ _ _›; have h1 : mq_ag _ μ' _ := (by assumption); exact e46_keep h1 h2 hE (by assumption) (by assumption) (by assumption) (by assumption) (by assumption) (by assumption) (by decide +kernel) (by decide +kernel) (by decide +kernel)) | (have h1 : mq_ag _ μ' _ := (by assumption); have e9 := e46_back h1 hE (by assumption) (by assumption) (by assumption) (by assumption) (by decide +kernel) (by decide +kernel); omega)
set_option maxHeartbeats 16000000 in
set_option maxRecDepth 100000 in
theorem lq_1750 (N : Nat) (l : mq_L) (st : List mq_V) (ρ' : mq_R) (μ' : mq_M) (cs : Nat) (hJ : (match kq_law[81]? with | some q => q.2.2 (N + 1) l st ρ' μ' cs | none => False)) (hbk : mq_bok μ') (hrl : mq_rgl l) : mq_wp mq_fm mq_rg mq_rp pq_law lq_cl lq_md 1084 (fun v _ _ cs => v = 1 ∧ cs ≤ 1084) (mq_KK kq_law N) 400 (mq_seek 1750 pq_law) l st ρ' μ' cs := by
  obtain ⟨nw, sp, tl, tx, al⟩ := ρ'
  obtain ⟨i0, l0, rfl, hJ0⟩ := mq_tR_spec hJ
  obtain ⟨l1, rfl, hJ1⟩ := mq_tZ_spec hJ0
  obtain ⟨l2, rfl, hJ2⟩ := mq_tZ_spec hJ1
  obtain ⟨v3, l3, rfl, hJ3⟩ := mq_tI_spec hJ2
  obtain ⟨rfl, hJ4⟩ := mq_t0_spec hJ3
  clear hJ hJ0 hJ1 hJ2 hJ3
  obtain ⟨rfl, rfl, hcs, hc0, hc1, hc2, hc3, hinv, hE, hm0, hm1⟩ := hJ4
  obtain ⟨⟨hl3a, hl3b⟩, -⟩ := hrl
  repeat' (first | refine And.intro ?_ ?_ | intro _)
  all_goals try simp only [Int.reduceToNat, Int.reduceAdd, true_and, and_true, false_and, and_false, false_or, or_false, true_or, or_true, true_implies] at *
  all_goals first | omega | rfl | exact trivial | assumption | (have hag := ‹mq_ag _ _ _›; rw [mq_ag_at hag 97 0 (by decide +kernel)]; omega) | (have hag := ‹mq_ag _ _ _›; rw [mq_ag_at hag 69 0 (by decide +kernel), mq_ag_at hag 76 0 (by decide +kernel)]; assumption) | (have hag := ‹mq_ag _ _ _›; rw [mq_ag_at hag 69 0 (by decide +kernel), mq_ag_at hag 76 0 (by decide +kernel)]; exact hinv) | (have h1 : mq_ag _ μ' _ := (by assumption); simp only [mq_ag_at h1 97 0 (by decide +kernel)] at *; omega) | (have h2 := ‹mq_ag _ _ _›; have h1 : mq_ag _ μ' _ := (by assumption); rw [mq_ag_at h2 97 0 (by decide +kernel), mq_ag_at h1 97 0 (by decide +kernel)]; omega) | (have h2 := ‹mq_ag _ _ _›; have h1 : mq_ag _ μ' _ := (by assumption); rw [mq_ag_at h2 69 0 (by decide +kernel), mq_ag_at h2 76 0 (by decide +kernel), mq_ag_at h1 69 0 (by decide +kernel), mq_ag_at h1 76 0 (by decide +kernel)]; exact hinv) | exact hE | (have hag := ‹mq_ag _ _ _›; exact e46_ag (by decide +kernel) (by decide +kernel) hag hE) | (have h2 := ‹mq_ag _ _ _›; have h1 : mq_ag _ μ' _ := (by assumption); exact e46_ag (by decide +kernel) (by decide +kernel) h2 (e46_ag (by decide +kernel) (by decide +kernel) h1 hE)) | (have h2 := ‹mq_ag _ _ _›; have h1 : mq_ag _ μ' _ := (by assumption); exact e46_keep h1 h2 hE (by assumption) (by assumption) (by assumption) (by assumption) (by assumption) (by assumption) (by decide +kernel) (by decide +kernel) (by decide +kernel)) | (have h1 : mq_ag _ μ' _ := (by assumption); have e9 := e46_back h1 hE (by assumption) (by assumption) (by assumption) (by assumption) (by decide +kernel) (by decide +kernel); omega)
set_option maxHeartbeats 16000000 in
set_option maxRecDepth 100000 in
theorem lq_1775 (N : Nat) (l : mq_L) (st : List mq_V) (ρ' : mq_R) (μ' : mq_M) (cs : Nat) (hJ : (match kq_law[82]? with | some q => q.2.2 (N + 1) l st ρ' μ' cs | none => False)) (hbk : mq_bok μ') (hrl : mq_rgl l) : mq_wp mq_fm mq_rg mq_rp pq_law lq_cl lq_md 1084 (fun v _ _ cs => v = 1 ∧ cs ≤ 1084) (mq_KK kq_law N) 400 (mq_seek 1775 pq_law) l st ρ' μ' cs := by
  obtain ⟨nw, sp, tl, tx, al⟩ := ρ'
  obtain ⟨i0, l0, rfl, hJ0⟩ := mq_tR_spec hJ
  obtain ⟨l1, rfl, hJ1⟩ := mq_tZ_spec hJ0
  obtain ⟨l2, rfl, hJ2⟩ := mq_tZ_spec hJ1
  obtain ⟨v3, l3, rfl, hJ3⟩ := mq_tI_spec hJ2
  obtain ⟨rfl, hJ4⟩ := mq_t0_spec hJ3
  clear hJ hJ0 hJ1 hJ2 hJ3
  obtain ⟨rfl, rfl, hcs, hc0, hc1, hc2, hc3, hinv, hE, hm0, hm1⟩ := hJ4
  obtain ⟨⟨hl3a, hl3b⟩, -⟩ := hrl
  repeat' (first | refine And.intro ?_ ?_ | intro _)
  all_goals try simp only [Int.reduceToNat, Int.reduceAdd, true_and, and_true, false_and, and_false, false_or, or_false, true_or, or_true, true_implies] at *
  all_goals first | omega | rfl | exact trivial | assumption | (have hag := ‹mq_ag _ _ _›; rw [mq_ag_at hag 97 0 (by decide +kernel)]; omega) | (have hag := ‹mq_ag _ _ _›; rw [mq_ag_at hag 69 0 (by decide +kernel), mq_ag_at hag 76 0 (by decide +kernel)]; assumption) | (have hag := ‹mq_ag _ _ _›; rw [mq_ag_at hag 69 0 (by decide +kernel), mq_ag_at hag 76 0 (by decide +kernel)]; exact hinv) | (have h1 : mq_ag _ μ' _ := (by assumption); simp only [mq_ag_at h1 97 0 (by decide +kernel)] at *; omega) | (have h2 := ‹mq_ag _ _ _›; have h1 : mq_ag _ μ' _ := (by assumption); rw [mq_ag_at h2 97 0 (by decide +kernel), mq_ag_at h1 97 0 (by decide +kernel)]; omega) | (have h2 := ‹mq_ag _ _ _›; have h1 : mq_ag _ μ' _ := (by assumption); rw [mq_ag_at h2 69 0 (by decide +kernel), mq_ag_at h2 76 0 (by decide +kernel), mq_ag_at h1 69 0 (by decide +kernel), mq_ag_at h1 76 0 (by decide +kernel)]; exact hinv) | exact hE | (have hag := ‹mq_ag _ _ _›; exact e46_ag (by decide +kernel) (by decide +kernel) hag hE) | (have h2 := ‹mq_ag _ _ _›; have h1 : mq_ag _ μ' _ := (by assumption); exact e46_ag (by decide +kernel) (by decide +kernel) h2 (e46_ag (by decide +kernel) (by decide +kernel) h1 hE)) | (have h2 := ‹mq_ag _ _ _›; have h1 : mq_ag _ μ' _ := (by assumption); exact e46_keep h1 h2 hE (by assumption) (by assumption) (by assumption) (by assumption) (by assumption) (by assumption) (by decide +kernel) (by decide +kernel) (by decide +kernel)) | (have h1 : mq_ag _ μ' _ := (by assumption); have e9 := e46_back h1 hE (by assumption) (by assumption) (by assumption) (by assumption) (by decide +kernel) (by decide +kernel); omega)
set_option maxHeartbeats 16000000 in
set_option maxRecDepth 100000 in
theorem lq_1803 (N : Nat) (l : mq_L) (st : List mq_V) (ρ' : mq_R) (μ' : mq_M) (cs : Nat) (hJ : (match kq_law[83]? with | some q => q.2.2 (N + 1) l st ρ' μ' cs | none => False)) (hbk : mq_bok μ') (hrl : mq_rgl l) : mq_wp mq_fm mq_rg mq_rp pq_law lq_cl lq_md 1084 (fun v _ _ cs => v = 1 ∧ cs ≤ 1084) (mq_KK kq_law N) 400 (mq_seek 1803 pq_law) l st ρ' μ' cs := by
  obtain ⟨nw, sp, tl, tx, al⟩ := ρ'
  obtain ⟨i0, l0, rfl, hJ0⟩ := mq_tR_spec hJ
  obtain ⟨l1, rfl, hJ1⟩ := mq_tZ_spec hJ0
  obtain ⟨l2, rfl, hJ2⟩ := mq_tZ_spec hJ1
  obtain ⟨v3, l3, rfl, hJ3⟩ := mq_tI_spec hJ2
  obtain ⟨rfl, hJ4⟩ := mq_t0_spec hJ3
  clear hJ hJ0 hJ1 hJ2 hJ3
  obtain ⟨rfl, rfl, hcs, hc0, hc1, hc2, hc3, hinv, hE, hm0, hm1⟩ := hJ4
  obtain ⟨⟨hl3a, hl3b⟩, -⟩ := hrl
  repeat' (first | refine And.intro ?_ ?_ | intro _)
  all_goals try simp only [Int.reduceToNat, Int.reduceAdd, true_and, and_true, false_and, and_false, false_or, or_false, true_or, or_true, true_implies] at *
  all_goals first | omega | rfl | exact trivial | assumption | (have hag := ‹mq_ag _ _ _›; rw [mq_ag_at hag 97 0 (by decide +kernel)]; omega) | (have hag := ‹mq_ag _ _ _›; rw [mq_ag_at hag 69 0 (by decide +kernel), mq_ag_at hag 76 0 (by decide +kernel)]; assumption) | (have hag := ‹mq_ag _ _ _›; rw [mq_ag_at hag 69 0 (by decide +kernel), mq_ag_at hag 76 0 (by decide +kernel)]; exact hinv) | (have h1 : mq_ag _ μ' _ := (by assumption); simp only [mq_ag_at h1 97 0 (by decide +kernel)] at *; omega) | (have h2 := ‹mq_ag _ _ _›; have h1 : mq_ag _ μ' _ := (by assumption); rw [mq_ag_at h2 97 0 (by decide +kernel), mq_ag_at h1 97 0 (by decide +kernel)]; omega) | (have h2 := ‹mq_ag _ _ _›; have h1 : mq_ag _ μ' _ := (by assumption); rw [mq_ag_at h2 69 0 (by decide +kernel), mq_ag_at h2 76 0 (by decide +kernel), mq_ag_at h1 69 0 (by decide +kernel), mq_ag_at h1 76 0 (by decide +kernel)]; exact hinv) | exact hE | (have hag := ‹mq_ag _ _ _›; exact e46_ag (by decide +kernel) (by decide +kernel) hag hE) | (have h2 := ‹mq_ag _ _ _›; have h1 : mq_ag _ μ' _ := (by assumption); exact e46_ag (by decide +kernel) (by decide +kernel) h2 (e46_ag (by decide +kernel) (by decide +kernel) h1 hE)) | (have h2 := ‹mq_ag _ _ _›; have h1 : mq_ag _ μ' _ := (by assumption); exact e46_keep h1 h2 hE (by assumption) (by assumption) (by assumption) (by assumption) (by assumption) (by assumption) (by decide +kernel) (by decide +kernel) (by decide +kernel)) | (have h1 : mq_ag _ μ' _ := (by assumption); have e9 := e46_back h1 hE (by assumption) (by assumption) (by assumption) (by assumption) (by decide +kernel) (by decide +kernel); omega)
set_option maxHeartbeats 16000000 in
set_option maxRecDepth 100000 in
theorem lq_1823 (N : Nat) (l : mq_L) (st : List mq_V) (ρ' : mq_R) (μ' : mq_M) (cs : Nat) (hJ : (match kq_law[84]? with | some q => q.2.2 (N + 1) l st ρ' μ' cs | none => False)) (hbk : mq_bok μ') (hrl : mq_rgl l) : mq_wp mq_fm mq_rg mq_rp pq_law lq_cl lq_md 1084 (fun v _ _ cs => v = 1 ∧ cs ≤ 1084) (mq_KK kq_law N) 400 (mq_seek 1823 pq_law) l st ρ' μ' cs := by
  obtain ⟨nw, sp, tl, tx, al⟩ := ρ'
  obtain ⟨i0, l0, rfl, hJ0⟩ := mq_tR_spec hJ
  obtain ⟨l1, rfl, hJ1⟩ := mq_tZ_spec hJ0
  obtain ⟨l2, rfl, hJ2⟩ := mq_tZ_spec hJ1
  obtain ⟨v3, l3, rfl, hJ3⟩ := mq_tI_spec hJ2
  obtain ⟨rfl, hJ4⟩ := mq_t0_spec hJ3
  clear hJ hJ0 hJ1 hJ2 hJ3
  obtain ⟨rfl, rfl, hcs, hc0, hc1, hc2, hc3, hinv, hE, hm0, hm1⟩ := hJ4
  obtain ⟨⟨hl3a, hl3b⟩, -⟩ := hrl
  repeat' (first | refine And.intro ?_ ?_ | intro _)
  all_goals try simp only [Int.reduceToNat, Int.reduceAdd, true_and, and_true, false_and, and_false, false_or, or_false, true_or, or_true, true_implies] at *
  all_goals first | omega | rfl | exact trivial | assumption | (have hag := ‹mq_ag _ _ _›; rw [mq_ag_at hag 97 0 (by decide +kernel)]; omega) | (have hag := ‹mq_ag _ _ _›; rw [mq_ag_at hag 69 0 (by decide +kernel), mq_ag_at hag 76 0 (by decide +kernel)]; assumption) | (have hag := ‹mq_ag _ _ _›; rw [mq_ag_at hag 69 0 (by decide +kernel), mq_ag_at hag 76 0 (by decide +kernel)]; exact hinv) | (have h1 : mq_ag _ μ' _ := (by assumption); simp only [mq_ag_at h1 97 0 (by decide +kernel)] at *; omega) | (have h2 := ‹mq_ag _ _ _›; have h1 : mq_ag _ μ' _ := (by assumption); rw [mq_ag_at h2 97 0 (by decide +kernel), mq_ag_at h1 97 0 (by decide +kernel)]; omega) | (have h2 := ‹mq_ag _ _ _›; have h1 : mq_ag _ μ' _ := (by assumption); rw [mq_ag_at h2 69 0 (by decide +kernel), mq_ag_at h2 76 0 (by decide +kernel), mq_ag_at h1 69 0 (by decide +kernel), mq_ag_at h1 76 0 (by decide +kernel)]; exact hinv) | exact hE | (have hag := ‹mq_ag _ _ _›; exact e46_ag (by decide +kernel) (by decide +kernel) hag hE) | (have h2 := ‹mq_ag _ _ _›; have h1 : mq_ag _ μ' _ := (by assumption); exact e46_ag (by decide +kernel) (by decide +kernel) h2 (e46_ag (by decide +kernel) (by decide +kernel) h1 hE)) | (have h2 := ‹mq_ag _ _ _›; have h1 : mq_ag _ μ' _ := (by assumption); exact e46_keep h1 h2 hE (by assumption) (by assumption) (by assumption) (by assumption) (by assumption) (by assumption) (by decide +kernel) (by decide +kernel) (by decide +kernel)) | (have h1 : mq_ag _ μ' _ := (by assumption); have e9 := e46_back h1 hE (by assumption) (by assumption) (by assumption) (by assumption) (by decide +kernel) (by decide +kernel); omega)
set_option maxHeartbeats 16000000 in
set_option maxRecDepth 100000 in
theorem lq_1846 (N : Nat) (l : mq_L) (st : List mq_V) (ρ' : mq_R) (μ' : mq_M) (cs : Nat) (hJ : (match kq_law[85]? with | some q => q.2.2 (N + 1) l st ρ' μ' cs | none => False)) (hbk : mq_bok μ') (hrl : mq_rgl l) : mq_wp mq_fm mq_rg mq_rp pq_law lq_cl lq_md 1084 (fun v _ _ cs => v = 1 ∧ cs ≤ 1084) (mq_KK kq_law N) 400 (mq_seek 1846 pq_law) l st ρ' μ' cs := by
  obtain ⟨nw, sp, tl, tx, al⟩ := ρ'
  obtain ⟨i0, l0, rfl, hJ0⟩ := mq_tR_spec hJ
  obtain ⟨l1, rfl, hJ1⟩ := mq_tZ_spec hJ0
  obtain ⟨l2, rfl, hJ2⟩ := mq_tZ_spec hJ1
  obtain ⟨v3, l3, rfl, hJ3⟩ := mq_tI_spec hJ2
  obtain ⟨rfl, hJ4⟩ := mq_t0_spec hJ3
  clear hJ hJ0 hJ1 hJ2 hJ3
  obtain ⟨rfl, rfl, hcs, hc0, hc1, hc2, hc3, hinv, hE, hm0, hm1⟩ := hJ4
  obtain ⟨⟨hl3a, hl3b⟩, -⟩ := hrl
  repeat' (first | refine And.intro ?_ ?_ | intro _)
  all_goals try simp only [Int.reduceToNat, Int.reduceAdd, true_and, and_true, false_and, and_false, false_or, or_false, true_or, or_true, true_implies] at *
  all_goals first | omega | rfl | exact trivial | assumption | (have hag := ‹mq_ag _ _ _›; rw [mq_ag_at hag 97 0 (by decide +kernel)]; omega) | (have hag := ‹mq_ag _ _ _›; rw [mq_ag_at hag 69 0 (by decide +kernel), mq_ag_at hag 76 0 (by decide +kernel)]; assumption) | (have hag := ‹mq_ag _ _ _›; rw [mq_ag_at hag 69 0 (by decide +kernel), mq_ag_at hag 76 0 (by decide +kernel)]; exact hinv) | (have h1 : mq_ag _ μ' _ := (by assumption); simp only [mq_ag_at h1 97 0 (by decide +kernel)] at *; omega) | (have h2 := ‹mq_ag _ _ _›; have h1 : mq_ag _ μ' _ := (by assumption); rw [mq_ag_at h2 97 0 (by decide +kernel), mq_ag_at h1 97 0 (by decide +kernel)]; omega) | (have h2 := ‹mq_ag _ _ _›; have h1 : mq_ag _ μ' _ := (by assumption); rw [mq_ag_at h2 69 0 (by decide +kernel), mq_ag_at h2 76 0 (by decide +kernel), mq_ag_at h1 69 0 (by decide +kernel), mq_ag_at h1 76 0 (by decide +kernel)]; exact hinv) | exact hE | (have hag := ‹mq_ag _ _ _›; exact e46_ag (by decide +kernel) (by decide +kernel) hag hE) | (have h2 := ‹mq_ag _ _ _›; have h1 : mq_ag _ μ' _ := (by assumption); exact e46_ag (by decide +kernel) (by decide +kernel) h2 (e46_ag (by decide +kernel) (by decide +kernel) h1 hE)) | (have h2 := ‹mq_ag _ _ _›; have h1 : mq_ag _ μ' _ := (by assumption); exact e46_keep h1 h2 hE (by assumption) (by assumption) (by assumption) (by assumption) (by assumption) (by assumption) (by decide +kernel) (by decide +kernel) (by decide +kernel)) | (have h1 : mq_ag _ μ' _ := (by assumption); have e9 := e46_back h1 hE (by assumption) (by assumption) (by assumption) (by assumption) (by decide +kernel) (by decide +kernel); omega)
set_option maxHeartbeats 16000000 in
set_option maxRecDepth 100000 in
theorem lq_1856 (N : Nat) (l : mq_L) (st : List mq_V) (ρ' : mq_R) (μ' : mq_M) (cs : Nat) (hJ : (match kq_law[86]? with | some q => q.2.2 (N + 1) l st ρ' μ' cs | none => False)) (hbk : mq_bok μ') (hrl : mq_rgl l) : mq_wp mq_fm mq_rg mq_rp pq_law lq_cl lq_md 1084 (fun v _ _ cs => v = 1 ∧ cs ≤ 1084) (mq_KK kq_law N) 400 (mq_seek 1856 pq_law) l st ρ' μ' cs := by
  obtain ⟨nw, sp, tl, tx, al⟩ := ρ'
  obtain ⟨i0, l0, rfl, hJ0⟩ := mq_tR_spec hJ
  obtain ⟨l1, rfl, hJ1⟩ := mq_tZ_spec hJ0
  obtain ⟨l2, rfl, hJ2⟩ := mq_tZ_spec hJ1
  obtain ⟨v3, l3, rfl, hJ3⟩ := mq_tI_spec hJ2
  obtain ⟨rfl, hJ4⟩ := mq_t0_spec hJ3
  clear hJ hJ0 hJ1 hJ2 hJ3
  obtain ⟨rfl, rfl, hcs, hc0, hc1, hc2, hc3, hinv, hE, hm0, hm1⟩ := hJ4
  obtain ⟨⟨hl3a, hl3b⟩, -⟩ := hrl
  repeat' (first | refine And.intro ?_ ?_ | intro _)
  all_goals try simp only [Int.reduceToNat, Int.reduceAdd, true_and, and_true, false_and, and_false, false_or, or_false, true_or, or_true, true_implies] at *
  all_goals first | omega | rfl | exact trivial | assumption | (have hag := ‹mq_ag _ _ _›; rw [mq_ag_at hag 97 0 (by decide +kernel)]; omega) | (have hag := ‹mq_ag _ _ _›; rw [mq_ag_at hag 69 0 (by decide +kernel), mq_ag_at hag 76 0 (by decide +kernel)]; assumption) | (have hag := ‹mq_ag _ _ _›; rw [mq_ag_at hag 69 0 (by decide +kernel), mq_ag_at hag 76 0 (by decide +kernel)]; exact hinv) | (have h1 : mq_ag _ μ' _ := (by assumption); simp only [mq_ag_at h1 97 0 (by decide +kernel)] at *; omega) | (have h2 := ‹mq_ag _ _ _›; have h1 : mq_ag _ μ' _ := (by assumption); rw [mq_ag_at h2 97 0 (by decide +kernel), mq_ag_at h1 97 0 (by decide +kernel)]; omega) | (have h2 := ‹mq_ag _ _ _›; have h1 : mq_ag _ μ' _ := (by assumption); rw [mq_ag_at h2 69 0 (by decide +kernel), mq_ag_at h2 76 0 (by decide +kernel), mq_ag_at h1 69 0 (by decide +kernel), mq_ag_at h1 76 0 (by decide +kernel)]; exact hinv) | exact hE | (have hag := ‹mq_ag _ _ _›; exact e46_ag (by decide +kernel) (by decide +kernel) hag hE) | (have h2 := ‹mq_ag _ _ _›; have h1 : mq_ag _ μ' _ := (by assumption); exact e46_ag (by decide +kernel) (by decide +kernel) h2 (e46_ag (by decide +kernel) (by decide +kernel) h1 hE)) | (have h2 := ‹mq_ag _ _ _›; have h1 : mq_ag _ μ' _ := (by assumption); exact e46_keep h1 h2 hE (by assumption) (by assumption) (by assumption) (by assumption) (by assumption) (by assumption) (by decide +kernel) (by decide +kernel) (by decide +kernel)) | (have h1 : mq_ag _ μ' _ := (by assumption); have e9 := e46_back h1 hE (by assumption) (by assumption) (by assumption) (by assumption) (by decide +kernel) (by decide +kernel); omega)
set_option maxHeartbeats 16000000 in
set_option maxRecDepth 100000 in
theorem lq_1869 (N : Nat) (l : mq_L) (st : List mq_V) (ρ' : mq_R) (μ' : mq_M) (cs : Nat) (hJ : (match kq_law[87]? with | some q => q.2.2 (N + 1) l st ρ' μ' cs | none => False)) (hbk : mq_bok μ') (hrl : mq_rgl l) : mq_wp mq_fm mq_rg mq_rp pq_law lq_cl lq_md 1084 (fun v _ _ cs => v = 1 ∧ cs ≤ 1084) (mq_KK kq_law N) 400 (mq_seek 1869 pq_law) l st ρ' μ' cs := by
  obtain ⟨nw, sp, tl, tx, al⟩ := ρ'
  obtain ⟨i0, l0, rfl, hJ0⟩ := mq_tR_spec hJ
  obtain ⟨l1, rfl, hJ1⟩ := mq_tZ_spec hJ0
  obtain ⟨l2, rfl, hJ2⟩ := mq_tZ_spec hJ1
  obtain ⟨v3, l3, rfl, hJ3⟩ := mq_tI_spec hJ2
  obtain ⟨rfl, hJ4⟩ := mq_t0_spec hJ3
  clear hJ hJ0 hJ1 hJ2 hJ3
  obtain ⟨rfl, rfl, hcs, hc0, hc1, hc2, hc3, hinv, hE, hm0, hm1⟩ := hJ4
  obtain ⟨⟨hl3a, hl3b⟩, -⟩ := hrl
  repeat' (first | refine And.intro ?_ ?_ | intro _)
  all_goals try simp only [Int.reduceToNat, Int.reduceAdd, true_and, and_true, false_and, and_false, false_or, or_false, true_or, or_true, true_implies] at *
  all_goals first | omega | rfl | exact trivial | assumption | (have hag := ‹mq_ag _ _ _›; rw [mq_ag_at hag 97 0 (by decide +kernel)]; omega) | (have hag := ‹mq_ag _ _ _›; rw [mq_ag_at hag 69 0 (by decide +kernel), mq_ag_at hag 76 0 (by decide +kernel)]; assumption) | (have hag := ‹mq_ag _ _ _›; rw [mq_ag_at hag 69 0 (by decide +kernel), mq_ag_at hag 76 0 (by decide +kernel)]; exact hinv) | (have h1 : mq_ag _ μ' _ := (by assumption); simp only [mq_ag_at h1 97 0 (by decide +kernel)] at *; omega) | (have h2 := ‹mq_ag _ _ _›; have h1 : mq_ag _ μ' _ := (by assumption); rw [mq_ag_at h2 97 0 (by decide +kernel), mq_ag_at h1 97 0 (by decide +kernel)]; omega) | (have h2 := ‹mq_ag _ _ _›; have h1 : mq_ag _ μ' _ := (by assumption); rw [mq_ag_at h2 69 0 (by decide +kernel), mq_ag_at h2 76 0 (by decide +kernel), mq_ag_at h1 69 0 (by decide +kernel), mq_ag_at h1 76 0 (by decide +kernel)]; exact hinv) | exact hE | (have hag := ‹mq_ag _ _ _›; exact e46_ag (by decide +kernel) (by decide +kernel) hag hE) | (have h2 := ‹mq_ag _ _ _›; have h1 : mq_ag _ μ' _ := (by assumption); exact e46_ag (by decide +kernel) (by decide +kernel) h2 (e46_ag (by decide +kernel) (by decide +kernel) h1 hE)) | (have h2 := ‹mq_ag _ _ _›; have h1 : mq_ag _ μ' _ := (by assumption); exact e46_keep h1 h2 hE (by assumption) (by assumption) (by assumption) (by assumption) (by assumption) (by assumption) (by decide +kernel) (by decide +kernel) (by decide +kernel)) | (have h1 : mq_ag _ μ' _ := (by assumption); have e9 := e46_back h1 hE (by assumption) (by assumption) (by assumption) (by assumption) (by decide +kernel) (by decide +kernel); omega)
set_option maxHeartbeats 16000000 in
set_option maxRecDepth 100000 in
theorem lq_1892 (N : Nat) (l : mq_L) (st : List mq_V) (ρ' : mq_R) (μ' : mq_M) (cs : Nat) (hJ : (match kq_law[88]? with | some q => q.2.2 (N + 1) l st ρ' μ' cs | none => False)) (hbk : mq_bok μ') (hrl : mq_rgl l) : mq_wp mq_fm mq_rg mq_rp pq_law lq_cl lq_md 1084 (fun v _ _ cs => v = 1 ∧ cs ≤ 1084) (mq_KK kq_law N) 400 (mq_seek 1892 pq_law) l st ρ' μ' cs := by
  obtain ⟨nw, sp, tl, tx, al⟩ := ρ'
  obtain ⟨i0, l0, rfl, hJ0⟩ := mq_tR_spec hJ
  obtain ⟨l1, rfl, hJ1⟩ := mq_tZ_spec hJ0
  obtain ⟨l2, rfl, hJ2⟩ := mq_tZ_spec hJ1
  obtain ⟨v3, l3, rfl, hJ3⟩ := mq_tI_spec hJ2
  obtain ⟨rfl, hJ4⟩ := mq_t0_spec hJ3
  clear hJ hJ0 hJ1 hJ2 hJ3
  obtain ⟨rfl, rfl, hcs, hc0, hc1, hc2, hc3, hinv, hE, hm0, hm1⟩ := hJ4
  obtain ⟨⟨hl3a, hl3b⟩, -⟩ := hrl
  repeat' (first | refine And.intro ?_ ?_ | intro _)
  all_goals try simp only [Int.reduceToNat, Int.reduceAdd, true_and, and_true, false_and, and_false, false_or, or_false, true_or, or_true, true_implies] at *
  all_goals first | omega | rfl | exact trivial | assumption | (have hag := ‹mq_ag _ _ _›; rw [mq_ag_at hag 97 0 (by decide +kernel)]; omega) | (have hag := ‹mq_ag _ _ _›; rw [mq_ag_at hag 69 0 (by decide +kernel), mq_ag_at hag 76 0 (by decide +kernel)]; assumption) | (have hag := ‹mq_ag _ _ _›; rw [mq_ag_at hag 69 0 (by decide +kernel), mq_ag_at hag 76 0 (by decide +kernel)]; exact hinv) | (have h1 : mq_ag _ μ' _ := (by assumption); simp only [mq_ag_at h1 97 0 (by decide +kernel)] at *; omega) | (have h2 := ‹mq_ag _ _ _›; have h1 : mq_ag _ μ' _ := (by assumption); rw [mq_ag_at h2 97 0 (by decide +kernel), mq_ag_at h1 97 0 (by decide +kernel)]; omega) | (have h2 := ‹mq_ag _ _ _›; have h1 : mq_ag _ μ' _ := (by assumption); rw [mq_ag_at h2 69 0 (by decide +kernel), mq_ag_at h2 76 0 (by decide +kernel), mq_ag_at h1 69 0 (by decide +kernel), mq_ag_at h1 76 0 (by decide +kernel)]; exact hinv) | exact hE | (have hag := ‹mq_ag _ _ _›; exact e46_ag (by decide +kernel) (by decide +kernel) hag hE) | (have h2 := ‹mq_ag _ _ _›; have h1 : mq_ag _ μ' _ := (by assumption); exact e46_ag (by decide +kernel) (by decide +kernel) h2 (e46_ag (by decide +kernel) (by decide +kernel) h1 hE)) | (have h2 := ‹mq_ag _ _ _›; have h1 : mq_ag _ μ' _ := (by assumption); exact e46_keep h1 h2 hE (by assumption) (by assumption) (by assumption) (by assumption) (by assumption) (by assumption) (by decide +kernel) (by decide +kernel) (by decide +kernel)) | (have h1 : mq_ag _ μ' _ := (by assumption); have e9 := e46_back h1 hE (by assumption) (by assumption) (by assumption) (by assumption) (by decide +kernel) (by decide +kernel); omega)
set_option maxHeartbeats 16000000 in
set_option maxRecDepth 100000 in
theorem lq_1915 (N : Nat) (l : mq_L) (st : List mq_V) (ρ' : mq_R) (μ' : mq_M) (cs : Nat) (hJ : (match kq_law[89]? with | some q => q.2.2 (N + 1) l st ρ' μ' cs | none => False)) (hbk : mq_bok μ') (hrl : mq_rgl l) : mq_wp mq_fm mq_rg mq_rp pq_law lq_cl lq_md 1084 (fun v _ _ cs => v = 1 ∧ cs ≤ 1084) (mq_KK kq_law N) 400 (mq_seek 1915 pq_law) l st ρ' μ' cs := by
  obtain ⟨nw, sp, tl, tx, al⟩ := ρ'
  obtain ⟨i0, l0, rfl, hJ0⟩ := mq_tR_spec hJ
  obtain ⟨l1, rfl, hJ1⟩ := mq_tZ_spec hJ0
  obtain ⟨l2, rfl, hJ2⟩ := mq_tZ_spec hJ1
  obtain ⟨v3, l3, rfl, hJ3⟩ := mq_tI_spec hJ2
  obtain ⟨rfl, hJ4⟩ := mq_t0_spec hJ3
  clear hJ hJ0 hJ1 hJ2 hJ3
  obtain ⟨rfl, rfl, hcs, hc0, hc1, hc2, hc3, hinv, hE, hm0, hm1⟩ := hJ4
  obtain ⟨⟨hl3a, hl3b⟩, -⟩ := hrl
  repeat' (first | refine And.intro ?_ ?_ | intro _)
  all_goals try simp only [Int.reduceToNat, Int.reduceAdd, true_and, and_true, false_and, and_false, false_or, or_false, true_or, or_true, true_implies] at *
  all_goals first | omega | rfl | exact trivial | assumption | (have hag := ‹mq_ag _ _ _›; rw [mq_ag_at hag 97 0 (by decide +kernel)]; omega) | (have hag := ‹mq_ag _ _ _›; rw [mq_ag_at hag 69 0 (by decide +kernel), mq_ag_at hag 76 0 (by decide +kernel)]; assumption) | (have hag := ‹mq_ag _ _ _›; rw [mq_ag_at hag 69 0 (by decide +kernel), mq_ag_at hag 76 0 (by decide +kernel)]; exact hinv) | (have h1 : mq_ag _ μ' _ := (by assumption); simp only [mq_ag_at h1 97 0 (by decide +kernel)] at *; omega) | (have h2 := ‹mq_ag _ _ _›; have h1 : mq_ag _ μ' _ := (by assumption); rw [mq_ag_at h2 97 0 (by decide +kernel), mq_ag_at h1 97 0 (by decide +kernel)]; omega) | (have h2 := ‹mq_ag _ _ _›; have h1 : mq_ag _ μ' _ := (by assumption); rw [mq_ag_at h2 69 0 (by decide +kernel), mq_ag_at h2 76 0 (by decide +kernel), mq_ag_at h1 69 0 (by decide +kernel), mq_ag_at h1 76 0 (by decide +kernel)]; exact hinv) | exact hE | (have hag := ‹mq_ag _ _ _›; exact e46_ag (by decide +kernel) (by decide +kernel) hag hE) | (have h2 := ‹mq_ag _ _ _›; have h1 : mq_ag _ μ' _ := (by assumption); exact e46_ag (by decide +kernel) (by decide +kernel) h2 (e46_ag (by decide +kernel) (by decide +kernel) h1 hE)) | (have h2 := ‹mq_ag _ _ _›; have h1 : mq_ag _ μ' _ := (by assumption); exact e46_keep h1 h2 hE (by assumption) (by assumption) (by assumption) (by assumption) (by assumption) (by assumption) (by decide +kernel) (by decide +kernel) (by decide +kernel)) | (have h1 : mq_ag _ μ' _ := (by assumption); have e9 := e46_back h1 hE (by assumption) (by assumption) (by assumption) (by assumption) (by decide +kernel) (by decide +kernel); omega)
set_option maxHeartbeats 16000000 in
set_option maxRecDepth 100000 in
theorem lq_1935 (N : Nat) (l : mq_L) (st : List mq_V) (ρ' : mq_R) (μ' : mq_M) (cs : Nat) (hJ : (match kq_law[90]? with | some q => q.2.2 (N + 1) l st ρ' μ' cs | none => False)) (hbk : mq_bok μ') (hrl : mq_rgl l) : mq_wp mq_fm mq_rg mq_rp pq_law lq_cl lq_md 1084 (fun v _ _ cs => v = 1 ∧ cs ≤ 1084) (mq_KK kq_law N) 400 (mq_seek 1935 pq_law) l st ρ' μ' cs := by
  obtain ⟨nw, sp, tl, tx, al⟩ := ρ'
  obtain ⟨i0, l0, rfl, hJ0⟩ := mq_tR_spec hJ
  obtain ⟨l1, rfl, hJ1⟩ := mq_tZ_spec hJ0
  obtain ⟨l2, rfl, hJ2⟩ := mq_tZ_spec hJ1
  obtain ⟨v3, l3, rfl, hJ3⟩ := mq_tI_spec hJ2
  obtain ⟨rfl, hJ4⟩ := mq_t0_spec hJ3
  clear hJ hJ0 hJ1 hJ2 hJ3
  obtain ⟨rfl, rfl, hcs, hc0, hc1, hc2, hc3, hinv, hE, hm0, hm1⟩ := hJ4
  obtain ⟨⟨hl3a, hl3b⟩, -⟩ := hrl
  repeat' (first | refine And.intro ?_ ?_ | intro _)
  all_goals try simp only [Int.reduceToNat, Int.reduceAdd, true_and, and_true, false_and, and_false, false_or, or_false, true_or, or_true, true_implies] at *
  all_goals first | omega | rfl | exact trivial | assumption | (have hag := ‹mq_ag _ _ _›; rw [mq_ag_at hag 97 0 (by decide +kernel)]; omega) | (have hag := ‹mq_ag _ _ _›; rw [mq_ag_at hag 69 0 (by decide +kernel), mq_ag_at hag 76 0 (by decide +kernel)]; assumption) | (have hag := ‹mq_ag _ _ _›; rw [mq_ag_at hag 69 0 (by decide +kernel), mq_ag_at hag 76 0 (by decide +kernel)]; exact hinv) | (have h1 : mq_ag _ μ' _ := (by assumption); simp only [mq_ag_at h1 97 0 (by decide +kernel)] at *; omega) | (have h2 := ‹mq_ag _ _ _›; have h1 : mq_ag _ μ' _ := (by assumption); rw [mq_ag_at h2 97 0 (by decide +kernel), mq_ag_at h1 97 0 (by decide +kernel)]; omega) | (have h2 := ‹mq_ag _ _ _›; have h1 : mq_ag _ μ' _ := (by assumption); rw [mq_ag_at h2 69 0 (by decide +kernel), mq_ag_at h2 76 0 (by decide +kernel), mq_ag_at h1 69 0 (by decide +kernel), mq_ag_at h1 76 0 (by decide +kernel)]; exact hinv) | exact hE | (have hag := ‹mq_ag _ _ _›; exact e46_ag (by decide +kernel) (by decide +kernel) hag hE) | (have h2 := ‹mq_ag _ _ _›; have h1 : mq_ag _ μ' _ := (by assumption); exact e46_ag (by decide +kernel) (by decide +kernel) h2 (e46_ag (by decide +kernel) (by decide +kernel) h1 hE)) | (have h2 := ‹mq_ag _ _ _›; have h1 : mq_ag _ μ' _ := (by assumption); exact e46_keep h1 h2 hE (by assumption) (by assumption) (by assumption) (by assumption) (by assumption) (by assumption) (by decide +kernel) (by decide +kernel) (by decide +kernel)) | (have h1 : mq_ag _ μ' _ := (by assumption); have e9 := e46_back h1 hE (by assumption) (by assumption) (by assumption) (by assumption) (by decide +kernel) (by decide +kernel); omega)
set_option maxHeartbeats 16000000 in
set_option maxRecDepth 100000 in
theorem lq_1958 (N : Nat) (l : mq_L) (st : List mq_V) (ρ' : mq_R) (μ' : mq_M) (cs : Nat) (hJ : (match kq_law[91]? with | some q => q.2.2 (N + 1) l st ρ' μ' cs | none => False)) (hbk : mq_bok μ') (hrl : mq_rgl l) : mq_wp mq_fm mq_rg mq_rp pq_law lq_cl lq_md 1084 (fun v _ _ cs => v = 1 ∧ cs ≤ 1084) (mq_KK kq_law N) 400 (mq_seek 1958 pq_law) l st ρ' μ' cs := by
  obtain ⟨nw, sp, tl, tx, al⟩ := ρ'
  obtain ⟨i0, l0, rfl, hJ0⟩ := mq_tR_spec hJ
  obtain ⟨l1, rfl, hJ1⟩ := mq_tZ_spec hJ0
  obtain ⟨l2, rfl, hJ2⟩ := mq_tZ_spec hJ1
  obtain ⟨v3, l3, rfl, hJ3⟩ := mq_tI_spec hJ2
  obtain ⟨rfl, hJ4⟩ := mq_t0_spec hJ3
  clear hJ hJ0 hJ1 hJ2 hJ3
  obtain ⟨rfl, rfl, hcs, hc0, hc1, hc2, hc3, hinv, hE, hm0, hm1⟩ := hJ4
  obtain ⟨⟨hl3a, hl3b⟩, -⟩ := hrl
  repeat' (first | refine And.intro ?_ ?_ | intro _)
  all_goals try simp only [Int.reduceToNat, Int.reduceAdd, true_and, and_true, false_and, and_false, false_or, or_false, true_or, or_true, true_implies] at *
  all_goals first | omega | rfl | exact trivial | assumption | (have hag := ‹mq_ag _ _ _›; rw [mq_ag_at hag 97 0 (by decide +kernel)]; omega) | (have hag := ‹mq_ag _ _ _›; rw [mq_ag_at hag 69 0 (by decide +kernel), mq_ag_at hag 76 0 (by decide +kernel)]; assumption) | (have hag := ‹mq_ag _ _ _›; rw [mq_ag_at hag 69 0 (by decide +kernel), mq_ag_at hag 76 0 (by decide +kernel)]; exact hinv) | (have h1 : mq_ag _ μ' _ := (by assumption); simp only [mq_ag_at h1 97 0 (by decide +kernel)] at *; omega) | (have h2 := ‹mq_ag _ _ _›; have h1 : mq_ag _ μ' _ := (by assumption); rw [mq_ag_at h2 97 0 (by decide +kernel), mq_ag_at h1 97 0 (by decide +kernel)]; omega) | (have h2 := ‹mq_ag _ _ _›; have h1 : mq_ag _ μ' _ := (by assumption); rw [mq_ag_at h2 69 0 (by decide +kernel), mq_ag_at h2 76 0 (by decide +kernel), mq_ag_at h1 69 0 (by decide +kernel), mq_ag_at h1 76 0 (by decide +kernel)]; exact hinv) | exact hE | (have hag := ‹mq_ag _ _ _›; exact e46_ag (by decide +kernel) (by decide +kernel) hag hE) | (have h2 := ‹mq_ag _ _ _›; have h1 : mq_ag _ μ' _ := (by assumption); exact e46_ag (by decide +kernel) (by decide +kernel) h2 (e46_ag (by decide +kernel) (by decide +kernel) h1 hE)) | (have h2 := ‹mq_ag _ _ _›; have h1 : mq_ag _ μ' _ := (by assumption); exact e46_keep h1 h2 hE (by assumption) (by assumption) (by assumption) (by assumption) (by assumption) (by assumption) (by decide +kernel) (by decide +kernel) (by decide +kernel)) | (have h1 : mq_ag _ μ' _ := (by assumption); have e9 := e46_back h1 hE (by assumption) (by assumption) (by assumption) (by assumption) (by decide +kernel) (by decide +kernel); omega)
set_option maxHeartbeats 16000000 in
set_option maxRecDepth 100000 in
theorem lq_1993 (N : Nat) (l : mq_L) (st : List mq_V) (ρ' : mq_R) (μ' : mq_M) (cs : Nat) (hJ : (match kq_law[92]? with | some q => q.2.2 (N + 1) l st ρ' μ' cs | none => False)) (hbk : mq_bok μ') (hrl : mq_rgl l) : mq_wp mq_fm mq_rg mq_rp pq_law lq_cl lq_md 1084 (fun v _ _ cs => v = 1 ∧ cs ≤ 1084) (mq_KK kq_law N) 400 (mq_seek 1993 pq_law) l st ρ' μ' cs := by
  obtain ⟨nw, sp, tl, tx, al⟩ := ρ'
  obtain ⟨i0, l0, rfl, hJ0⟩ := mq_tR_spec hJ
  obtain ⟨l1, rfl, hJ1⟩ := mq_tZ_spec hJ0
  obtain ⟨l2, rfl, hJ2⟩ := mq_tZ_spec hJ1
  obtain ⟨v3, l3, rfl, hJ3⟩ := mq_tI_spec hJ2
  obtain ⟨rfl, hJ4⟩ := mq_t0_spec hJ3
  clear hJ hJ0 hJ1 hJ2 hJ3
  obtain ⟨rfl, rfl, hcs, hc0, hc1, hc2, hc3, hinv, hE, hm0, hm1⟩ := hJ4
  obtain ⟨⟨hl3a, hl3b⟩, -⟩ := hrl
  repeat' (first | refine And.intro ?_ ?_ | intro _)
  all_goals try simp only [Int.reduceToNat, Int.reduceAdd, true_and, and_true, false_and, and_false, false_or, or_false, true_or, or_true, true_implies] at *
  all_goals first | omega | rfl | exact trivial | assumption | (have hag := ‹mq_ag _ _ _›; rw [mq_ag_at hag 97 0 (by decide +kernel)]; omega) | (have hag := ‹mq_ag _ _ _›; rw [mq_ag_at hag 69 0 (by decide +kernel), mq_ag_at hag 76 0 (by decide +kernel)]; assumption) | (have hag := ‹mq_ag _ _ _›; rw [mq_ag_at hag 69 0 (by decide +kernel), mq_ag_at hag 76 0 (by decide +kernel)]; exact hinv) | (have h1 : mq_ag _ μ' _ := (by assumption); simp only [mq_ag_at h1 97 0 (by decide +kernel)] at *; omega) | (have h2 := ‹mq_ag _ _ _›; have h1 : mq_ag _ μ' _ := (by assumption); rw [mq_ag_at h2 97 0 (by decide +kernel), mq_ag_at h1 97 0 (by decide +kernel)]; omega) | (have h2 := ‹mq_ag _ _ _›; have h1 : mq_ag _ μ' _ := (by assumption); rw [mq_ag_at h2 69 0 (by decide +kernel), mq_ag_at h2 76 0 (by decide +kernel), mq_ag_at h1 69 0 (by decide +kernel), mq_ag_at h1 76 0 (by decide +kernel)]; exact hinv) | exact hE | (have hag := ‹mq_ag _ _ _›; exact e46_ag (by decide +kernel) (by decide +kernel) hag hE) | (have h2 := ‹mq_ag _ _ _›; have h1 : mq_ag _ μ' _ := (by assumption); exact e46_ag (by decide +kernel) (by decide +kernel) h2 (e46_ag (by decide +kernel) (by decide +kernel) h1 hE)) | (have h2 := ‹mq_ag _ _ _›; have h1 : mq_ag _ μ' _ := (by assumption); exact e46_keep h1 h2 hE (by assumption) (by assumption) (by assumption) (by assumption) (by assumption) (by assumption) (by decide +kernel) (by decide +kernel) (by decide +kernel)) | (have h1 : mq_ag _ μ' _ := (by assumption); have e9 := e46_back h1 hE (by assumption) (by assumption) (by assumption) (by assumption) (by decide +kernel) (by decide +kernel); omega)
set_option maxHeartbeats 16000000 in
set_option maxRecDepth 100000 in
theorem lq_2031 (N : Nat) (l : mq_L) (st : List mq_V) (ρ' : mq_R) (μ' : mq_M) (cs : Nat) (hJ : (match kq_law[93]? with | some q => q.2.2 (N + 1) l st ρ' μ' cs | none => False)) (hbk : mq_bok μ') (hrl : mq_rgl l) : mq_wp mq_fm mq_rg mq_rp pq_law lq_cl lq_md 1084 (fun v _ _ cs => v = 1 ∧ cs ≤ 1084) (mq_KK kq_law N) 400 (mq_seek 2031 pq_law) l st ρ' μ' cs := by
  obtain ⟨nw, sp, tl, tx, al⟩ := ρ'
  obtain ⟨i0, l0, rfl, hJ0⟩ := mq_tR_spec hJ
  obtain ⟨l1, rfl, hJ1⟩ := mq_tZ_spec hJ0
  obtain ⟨l2, rfl, hJ2⟩ := mq_tZ_spec hJ1
  obtain ⟨v3, l3, rfl, hJ3⟩ := mq_tI_spec hJ2
  obtain ⟨rfl, hJ4⟩ := mq_t0_spec hJ3
  clear hJ hJ0 hJ1 hJ2 hJ3
  obtain ⟨rfl, rfl, hcs, hc0, hc1, hc2, hc3, hinv, hE, hm0, hm1⟩ := hJ4
  obtain ⟨⟨hl3a, hl3b⟩, -⟩ := hrl
  repeat' (first | refine And.intro ?_ ?_ | intro _)
  all_goals try simp only [Int.reduceToNat, Int.reduceAdd, true_and, and_true, false_and, and_false, false_or, or_false, true_or, or_true, true_implies] at *
  all_goals first | omega | rfl | exact trivial | assumption | (have hag := ‹mq_ag _ _ _›; rw [mq_ag_at hag 97 0 (by decide +kernel)]; omega) | (have hag := ‹mq_ag _ _ _›; rw [mq_ag_at hag 69 0 (by decide +kernel), mq_ag_at hag 76 0 (by decide +kernel)]; assumption) | (have hag := ‹mq_ag _ _ _›; rw [mq_ag_at hag 69 0 (by decide +kernel), mq_ag_at hag 76 0 (by decide +kernel)]; exact hinv) | (have h1 : mq_ag _ μ' _ := (by assumption); simp only [mq_ag_at h1 97 0 (by decide +kernel)] at *; omega) | (have h2 := ‹mq_ag _ _ _›; have h1 : mq_ag _ μ' _ := (by assumption); rw [mq_ag_at h2 97 0 (by decide +kernel), mq_ag_at h1 97 0 (by decide +kernel)]; omega) | (have h2 := ‹mq_ag _ _ _›; have h1 : mq_ag _ μ' _ := (by assumption); rw [mq_ag_at h2 69 0 (by decide +kernel), mq_ag_at h2 76 0 (by decide +kernel), mq_ag_at h1 69 0 (by decide +kernel), mq_ag_at h1 76 0 (by decide +kernel)]; exact hinv) | exact hE | (have hag := ‹mq_ag _ _ _›; exact e46_ag (by decide +kernel) (by decide +kernel) hag hE) | (have h2 := ‹mq_ag _ _ _›; have h1 : mq_ag _ μ' _ := (by assumption); exact e46_ag (by decide +kernel) (by decide +kernel) h2 (e46_ag (by decide +kernel) (by decide +kernel) h1 hE)) | (have h2 := ‹mq_ag _ _ _›; have h1 : mq_ag _ μ' _ := (by assumption); exact e46_keep h1 h2 hE (by assumption) (by assumption) (by assumption) (by assumption) (by assumption) (by assumption) (by decide +kernel) (by decide +kernel) (by decide +kernel)) | (have h1 : mq_ag _ μ' _ := (by assumption); have e9 := e46_back h1 hE (by assumption) (by assumption) (by assumption) (by assumption) (by decide +kernel) (by decide +kernel); omega)
set_option maxHeartbeats 16000000 in
set_option maxRecDepth 100000 in
theorem lq_2061 (N : Nat) (l : mq_L) (st : List mq_V) (ρ' : mq_R) (μ' : mq_M) (cs : Nat) (hJ : (match kq_law[94]? with | some q => q.2.2 (N + 1) l st ρ' μ' cs | none => False)) (hbk : mq_bok μ') (hrl : mq_rgl l) : mq_wp mq_fm mq_rg mq_rp pq_law lq_cl lq_md 1084 (fun v _ _ cs => v = 1 ∧ cs ≤ 1084) (mq_KK kq_law N) 400 (mq_seek 2061 pq_law) l st ρ' μ' cs := by
  obtain ⟨nw, sp, tl, tx, al⟩ := ρ'
  obtain ⟨i0, l0, rfl, hJ0⟩ := mq_tR_spec hJ
  obtain ⟨l1, rfl, hJ1⟩ := mq_tZ_spec hJ0
  obtain ⟨l2, rfl, hJ2⟩ := mq_tZ_spec hJ1
  obtain ⟨v3, l3, rfl, hJ3⟩ := mq_tI_spec hJ2
  obtain ⟨rfl, hJ4⟩ := mq_t0_spec hJ3
  clear hJ hJ0 hJ1 hJ2 hJ3
  obtain ⟨rfl, rfl, hcs, hc0, hc1, hc2, hc3, hinv, hE, hm0, hm1⟩ := hJ4
  obtain ⟨⟨hl3a, hl3b⟩, -⟩ := hrl
  repeat' (first | refine And.intro ?_ ?_ | intro _)
  all_goals try simp only [Int.reduceToNat, Int.reduceAdd, true_and, and_true, false_and, and_false, false_or, or_false, true_or, or_true, true_implies] at *
  all_goals first | omega | rfl | exact trivial | assumption | (have hag := ‹mq_ag _ _ _›; rw [mq_ag_at hag 97 0 (by decide +kernel)]; omega) | (have hag := ‹mq_ag _ _ _›; rw [mq_ag_at hag 69 0 (by decide +kernel), mq_ag_at hag 76 0 (by decide +kernel)]; assumption) | (have hag := ‹mq_ag _ _ _›; rw [mq_ag_at hag 69 0 (by decide +kernel), mq_ag_at hag 76 0 (by decide +kernel)]; exact hinv) | (have h1 : mq_ag _ μ' _ := (by assumption); simp only [mq_ag_at h1 97 0 (by decide +kernel)] at *; omega) | (have h2 := ‹mq_ag _ _ _›; have h1 : mq_ag _ μ' _ := (by assumption); rw [mq_ag_at h2 97 0 (by decide +kernel), mq_ag_at h1 97 0 (by decide +kernel)]; omega) | (have h2 := ‹mq_ag _ _ _›; have h1 : mq_ag _ μ' _ := (by assumption); rw [mq_ag_at h2 69 0 (by decide +kernel), mq_ag_at h2 76 0 (by decide +kernel), mq_ag_at h1 69 0 (by decide +kernel), mq_ag_at h1 76 0 (by decide +kernel)]; exact hinv) | exact hE | (have hag := ‹mq_ag _ _ _›; exact e46_ag (by decide +kernel) (by decide +kernel) hag hE) | (have h2 := ‹mq_ag _ _ _›; have h1 : mq_ag _ μ' _ := (by assumption); exact e46_ag (by decide +kernel) (by decide +kernel) h2 (e46_ag (by decide +kernel) (by decide +kernel) h1 hE)) | (have h2 := ‹mq_ag _ _ _›; have h1 : mq_ag _ μ' _ := (by assumption); exact e46_keep h1 h2 hE (by assumption) (by assumption) (by assumption) (by assumption) (by assumption) (by assumption) (by decide +kernel) (by decide +kernel) (by decide +kernel)) | (have h1 : mq_ag _ μ' _ := (by assumption); have e9 := e46_back h1 hE (by assumption) (by assumption) (by assumption) (by assumption) (by decide +kernel) (by decide +kernel); omega)
set_option maxHeartbeats 16000000 in
set_option maxRecDepth 100000 in
theorem lq_2094 (N : Nat) (l : mq_L) (st : List mq_V) (ρ' : mq_R) (μ' : mq_M) (cs : Nat) (hJ : (match kq_law[95]? with | some q => q.2.2 (N + 1) l st ρ' μ' cs | none => False)) (hbk : mq_bok μ') (hrl : mq_rgl l) : mq_wp mq_fm mq_rg mq_rp pq_law lq_cl lq_md 1084 (fun v _ _ cs => v = 1 ∧ cs ≤ 1084) (mq_KK kq_law N) 400 (mq_seek 2094 pq_law) l st ρ' μ' cs := by
  obtain ⟨nw, sp, tl, tx, al⟩ := ρ'
  obtain ⟨i0, l0, rfl, hJ0⟩ := mq_tR_spec hJ
  obtain ⟨l1, rfl, hJ1⟩ := mq_tZ_spec hJ0
  obtain ⟨l2, rfl, hJ2⟩ := mq_tZ_spec hJ1
  obtain ⟨v3, l3, rfl, hJ3⟩ := mq_tI_spec hJ2
  obtain ⟨rfl, hJ4⟩ := mq_t0_spec hJ3
  clear hJ hJ0 hJ1 hJ2 hJ3
  obtain ⟨rfl, rfl, hcs, hc0, hc1, hc2, hc3, hinv, hE, hm0, hm1⟩ := hJ4
  obtain ⟨⟨hl3a, hl3b⟩, -⟩ := hrl
  repeat' (first | refine And.intro ?_ ?_ | intro _)
  all_goals try simp only [Int.reduceToNat, Int.reduceAdd, true_and, and_true, false_and, and_false, false_or, or_false, true_or, or_true, true_implies] at *
  all_goals first | omega | rfl | exact trivial | assumption | (have hag := ‹mq_ag _ _ _›; rw [mq_ag_at hag 97 0 (by decide +kernel)]; omega) | (have hag := ‹mq_ag _ _ _›; rw [mq_ag_at hag 69 0 (by decide +kernel), mq_ag_at hag 76 0 (by decide +kernel)]; assumption) | (have hag := ‹mq_ag _ _ _›; rw [mq_ag_at hag 69 0 (by decide +kernel), mq_ag_at hag 76 0 (by decide +kernel)]; exact hinv) | (have h1 : mq_ag _ μ' _ := (by assumption); simp only [mq_ag_at h1 97 0 (by decide +kernel)] at *; omega) | (have h2 := ‹mq_ag _ _ _›; have h1 : mq_ag _ μ' _ := (by assumption); rw [mq_ag_at h2 97 0 (by decide +kernel), mq_ag_at h1 97 0 (by decide +kernel)]; omega) | (have h2 := ‹mq_ag _ _ _›; have h1 : mq_ag _ μ' _ := (by assumption); rw [mq_ag_at h2 69 0 (by decide +kernel), mq_ag_at h2 76 0 (by decide +kernel), mq_ag_at h1 69 0 (by decide +kernel), mq_ag_at h1 76 0 (by decide +kernel)]; exact hinv) | exact hE | (have hag := ‹mq_ag _ _ _›; exact e46_ag (by decide +kernel) (by decide +kernel) hag hE) | (have h2 := ‹mq_ag _ _ _›; have h1 : mq_ag _ μ' _ := (by assumption); exact e46_ag (by decide +kernel) (by decide +kernel) h2 (e46_ag (by decide +kernel) (by decide +kernel) h1 hE)) | (have h2 := ‹mq_ag _ _ _›; have h1 : mq_ag _ μ' _ := (by assumption); exact e46_keep h1 h2 hE (by assumption) (by assumption) (by assumption) (by assumption) (by assumption) (by assumption) (by decide +kernel) (by decide +kernel) (by decide +kernel)) | (have h1 : mq_ag _ μ' _ := (by assumption); have e9 := e46_back h1 hE (by assumption) (by assumption) (by assumption) (by assumption) (by decide +kernel) (by decide +kernel); omega)
set_option maxRecDepth 100000 in
theorem lq_0 : ∀ q ∈ kq_law, ∀ l st ρ' μ' cs, ¬ q.2.2 0 l st ρ' μ' cs := by
  intro q hq l st ρ' μ' cs h
  simp only [kq_law, List.mem_cons, List.not_mem_nil, or_false] at hq
  rcases hq with rfl | rfl | rfl | rfl | rfl | rfl | rfl | rfl | rfl | rfl | rfl | rfl | rfl | rfl | rfl | rfl | rfl | rfl | rfl | rfl | rfl | rfl | rfl | rfl | rfl | rfl | rfl | rfl | rfl | rfl | rfl | rfl | rfl | rfl | rfl | rfl | rfl | rfl | rfl | rfl | rfl | rfl | rfl | rfl | rfl | rfl | rfl | rfl | rfl | rfl | rfl | rfl | rfl | rfl | rfl | rfl | rfl | rfl | rfl | rfl | rfl | rfl | rfl | rfl | rfl | rfl | rfl | rfl | rfl | rfl | rfl | rfl | rfl | rfl | rfl | rfl | rfl | rfl | rfl | rfl | rfl | rfl | rfl | rfl | rfl | rfl | rfl | rfl | rfl | rfl | rfl | rfl | rfl | rfl | rfl | rfl
  all_goals (obtain ⟨i0, l0, rfl, hJ0⟩ := mq_tR_spec h; obtain ⟨l1, rfl, hJ1⟩ := mq_tZ_spec hJ0; obtain ⟨l2, rfl, hJ2⟩ := mq_tZ_spec hJ1; obtain ⟨v3, l3, rfl, hJ3⟩ := mq_tI_spec hJ2; obtain ⟨rfl, hJ4⟩ := mq_t0_spec hJ3; omega)
set_option maxRecDepth 100000 in
theorem lq_C : ∀ q ∈ kq_law, ∀ (N : Nat) (l : mq_L) (st : List mq_V) (ρ' : mq_R) (μ' : mq_M) (cs : Nat), q.2.2 (N + 1) l st ρ' μ' cs → mq_bok μ' → mq_rgl l → mq_wp mq_fm mq_rg mq_rp pq_law lq_cl lq_md 1084 (fun v _ _ cs => v = 1 ∧ cs ≤ 1084) (mq_KK kq_law N) 400 (mq_seek q.1 pq_law) l st ρ' μ' cs := by
  intro q hq N l st ρ' μ' cs h hbk hrl
  simp only [kq_law, List.mem_cons, List.not_mem_nil, or_false] at hq
  rcases hq with rfl | rfl | rfl | rfl | rfl | rfl | rfl | rfl | rfl | rfl | rfl | rfl | rfl | rfl | rfl | rfl | rfl | rfl | rfl | rfl | rfl | rfl | rfl | rfl | rfl | rfl | rfl | rfl | rfl | rfl | rfl | rfl | rfl | rfl | rfl | rfl | rfl | rfl | rfl | rfl | rfl | rfl | rfl | rfl | rfl | rfl | rfl | rfl | rfl | rfl | rfl | rfl | rfl | rfl | rfl | rfl | rfl | rfl | rfl | rfl | rfl | rfl | rfl | rfl | rfl | rfl | rfl | rfl | rfl | rfl | rfl | rfl | rfl | rfl | rfl | rfl | rfl | rfl | rfl | rfl | rfl | rfl | rfl | rfl | rfl | rfl | rfl | rfl | rfl | rfl | rfl | rfl | rfl | rfl | rfl | rfl
  · exact lq_18 N l st ρ' μ' cs h hbk hrl
  · exact lq_240 N l st ρ' μ' cs h hbk hrl
  · exact lq_270 N l st ρ' μ' cs h hbk hrl
  · exact lq_303 N l st ρ' μ' cs h hbk hrl
  · exact lq_313 N l st ρ' μ' cs h hbk hrl
  · exact lq_326 N l st ρ' μ' cs h hbk hrl
  · exact lq_331 N l st ρ' μ' cs h hbk hrl
  · exact lq_339 N l st ρ' μ' cs h hbk hrl
  · exact lq_349 N l st ρ' μ' cs h hbk hrl
  · exact lq_362 N l st ρ' μ' cs h hbk hrl
  · exact lq_377 N l st ρ' μ' cs h hbk hrl
  · exact lq_395 N l st ρ' μ' cs h hbk hrl
  · exact lq_410 N l st ρ' μ' cs h hbk hrl
  · exact lq_428 N l st ρ' μ' cs h hbk hrl
  · exact lq_438 N l st ρ' μ' cs h hbk hrl
  · exact lq_451 N l st ρ' μ' cs h hbk hrl
  · exact lq_466 N l st ρ' μ' cs h hbk hrl
  · exact lq_484 N l st ρ' μ' cs h hbk hrl
  · exact lq_499 N l st ρ' μ' cs h hbk hrl
  · exact lq_517 N l st ρ' μ' cs h hbk hrl
  · exact lq_532 N l st ρ' μ' cs h hbk hrl
  · exact lq_550 N l st ρ' μ' cs h hbk hrl
  · exact lq_580 N l st ρ' μ' cs h hbk hrl
  · exact lq_613 N l st ρ' μ' cs h hbk hrl
  · exact lq_638 N l st ρ' μ' cs h hbk hrl
  · exact lq_666 N l st ρ' μ' cs h hbk hrl
  · exact lq_691 N l st ρ' μ' cs h hbk hrl
  · exact lq_719 N l st ρ' μ' cs h hbk hrl
  · exact lq_749 N l st ρ' μ' cs h hbk hrl
  · exact lq_782 N l st ρ' μ' cs h hbk hrl
  · exact lq_807 N l st ρ' μ' cs h hbk hrl
  · exact lq_835 N l st ρ' μ' cs h hbk hrl
  · exact lq_860 N l st ρ' μ' cs h hbk hrl
  · exact lq_888 N l st ρ' μ' cs h hbk hrl
  · exact lq_913 N l st ρ' μ' cs h hbk hrl
  · exact lq_941 N l st ρ' μ' cs h hbk hrl
  · exact lq_966 N l st ρ' μ' cs h hbk hrl
  · exact lq_994 N l st ρ' μ' cs h hbk hrl
  · exact lq_1019 N l st ρ' μ' cs h hbk hrl
  · exact lq_1047 N l st ρ' μ' cs h hbk hrl
  · exact lq_1067 N l st ρ' μ' cs h hbk hrl
  · exact lq_1090 N l st ρ' μ' cs h hbk hrl
  · exact lq_1115 N l st ρ' μ' cs h hbk hrl
  · exact lq_1143 N l st ρ' μ' cs h hbk hrl
  · exact lq_1158 N l st ρ' μ' cs h hbk hrl
  · exact lq_1176 N l st ρ' μ' cs h hbk hrl
  · exact lq_1201 N l st ρ' μ' cs h hbk hrl
  · exact lq_1229 N l st ρ' μ' cs h hbk hrl
  · exact lq_1259 N l st ρ' μ' cs h hbk hrl
  · exact lq_1292 N l st ρ' μ' cs h hbk hrl
  · exact lq_1312 N l st ρ' μ' cs h hbk hrl
  · exact lq_1335 N l st ρ' μ' cs h hbk hrl
  · exact lq_1350 N l st ρ' μ' cs h hbk hrl
  · exact lq_1368 N l st ρ' μ' cs h hbk hrl
  · exact lq_1383 N l st ρ' μ' cs h hbk hrl
  · exact lq_1401 N l st ρ' μ' cs h hbk hrl
  · exact lq_1416 N l st ρ' μ' cs h hbk hrl
  · exact lq_1434 N l st ρ' μ' cs h hbk hrl
  · exact lq_1444 N l st ρ' μ' cs h hbk hrl
  · exact lq_1457 N l st ρ' μ' cs h hbk hrl
  · exact lq_1462 N l st ρ' μ' cs h hbk hrl
  · exact lq_1470 N l st ρ' μ' cs h hbk hrl
  · exact lq_1480 N l st ρ' μ' cs h hbk hrl
  · exact lq_1493 N l st ρ' μ' cs h hbk hrl
  · exact lq_1508 N l st ρ' μ' cs h hbk hrl
  · exact lq_1526 N l st ρ' μ' cs h hbk hrl
  · exact lq_1536 N l st ρ' μ' cs h hbk hrl
  · exact lq_1549 N l st ρ' μ' cs h hbk hrl
  · exact lq_1559 N l st ρ' μ' cs h hbk hrl
  · exact lq_1572 N l st ρ' μ' cs h hbk hrl
  · exact lq_1587 N l st ρ' μ' cs h hbk hrl
  · exact lq_1605 N l st ρ' μ' cs h hbk hrl
  · exact lq_1620 N l st ρ' μ' cs h hbk hrl
  · exact lq_1638 N l st ρ' μ' cs h hbk hrl
  · exact lq_1648 N l st ρ' μ' cs h hbk hrl
  · exact lq_1661 N l st ρ' μ' cs h hbk hrl
  · exact lq_1676 N l st ρ' μ' cs h hbk hrl
  · exact lq_1694 N l st ρ' μ' cs h hbk hrl
  · exact lq_1704 N l st ρ' μ' cs h hbk hrl
  · exact lq_1717 N l st ρ' μ' cs h hbk hrl
  · exact lq_1732 N l st ρ' μ' cs h hbk hrl
  · exact lq_1750 N l st ρ' μ' cs h hbk hrl
  · exact lq_1775 N l st ρ' μ' cs h hbk hrl
  · exact lq_1803 N l st ρ' μ' cs h hbk hrl
  · exact lq_1823 N l st ρ' μ' cs h hbk hrl
  · exact lq_1846 N l st ρ' μ' cs h hbk hrl
  · exact lq_1856 N l st ρ' μ' cs h hbk hrl
  · exact lq_1869 N l st ρ' μ' cs h hbk hrl
  · exact lq_1892 N l st ρ' μ' cs h hbk hrl
  · exact lq_1915 N l st ρ' μ' cs h hbk hrl
  · exact lq_1935 N l st ρ' μ' cs h hbk hrl
  · exact lq_1958 N l st ρ' μ' cs h hbk hrl
  · exact lq_1993 N l st ρ' μ' cs h hbk hrl
  · exact lq_2031 N l st ρ' μ' cs h hbk hrl
  · exact lq_2061 N l st ρ' μ' cs h hbk hrl
  · exact lq_2094 N l st ρ' μ' cs h hbk hrl
