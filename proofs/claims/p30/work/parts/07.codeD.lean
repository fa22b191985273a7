def IL : x_I := ("PurseOfNineBowlsLaw", [], [], [], [(7, 5), (10, 6)])
set_option maxRecDepth 100000 in
theorem okL : x_okI IL := ⟨fun _ h => absurd h List.not_mem_nil, fun _ h => absurd h List.not_mem_nil, fun _ h => absurd h List.not_mem_nil, List.forall_mem_cons.mpr ⟨⟨(RX5, TX5, 12), rfl, x_k1 (List.mem_of_getElem? (i := 11) rfl) rfl⟩, List.forall_mem_cons.mpr ⟨⟨(RX6, TX6, 32), rfl, x_k3 (List.mem_of_getElem? (i := 90) rfl) rfl⟩, fun _ h => absurd h List.not_mem_nil⟩⟩⟩
def kL_law : List (List (Nat × Instr × Nat)) := [[(0, .new 7, 3), (3, .dup, 1), (4, .invokespecial 9, 3), (7, .astore_n 1, 1), (8, .new 10, 3), (11, .dup, 1), (12, .invokespecial 12, 3), (15, .astore_n 2, 1)],
  [(16, .iconst 0, 1), (17, .istore_n 3, 1), (18, .iload_n 3, 1), (19, .aload_n 0, 1), (20, .arraylength, 1), (21, .iconst 3, 1), (22, .isub, 1), (23, .if_icmp .gt 814, 3), (26, .aload_n 0, 1), (27, .iload_n 3, 1), (28, .iaload, 1), (29, .bipush 31, 2), (31, .iand, 1)],
  [(32, .tableswitch 799 0 28 #[132, 155, 168, 201, 234, 267, 290, 323, 356, 379, 392, 415, 438, 451, 474, 507, 540, 563, 586, 599, 612, 635, 658, 681, 704, 717, 750, 763, 776], 132)],
  [],
  [],
  [],
  [],
  [],
  [],
  [],
  [(164, .aload_n 1, 1), (165, .aload_n 0, 1), (166, .iload_n 3, 1), (167, .iconst 1, 1), (168, .iadd, 1), (169, .iaload, 1), (170, .invokevirtual 13, 3), (173, .pop, 1), (174, .aload_n 2, 1), (175, .aload_n 0, 1)],
  [(176, .iload_n 3, 1), (177, .iconst 1, 1), (178, .iadd, 1), (179, .iaload, 1), (180, .invokevirtual 17, 3), (183, .pop, 1), (184, .goto 647, 3), (187, .aload_n 1, 1), (188, .invokevirtual 18, 3), (191, .pop, 1)],
  [(192, .aload_n 2, 1), (193, .invokevirtual 22, 3), (196, .pop, 1), (197, .goto 634, 3), (200, .aload_n 1, 1), (201, .aload_n 0, 1), (202, .iload_n 3, 1), (203, .iconst 1, 1), (204, .iadd, 1), (205, .iaload, 1), (206, .aload_n 0, 1), (207, .iload_n 3, 1)],
  [(208, .iconst 2, 1), (209, .iadd, 1), (210, .iaload, 1), (211, .invokevirtual 23, 3), (214, .pop, 1), (215, .aload_n 2, 1), (216, .aload_n 0, 1), (217, .iload_n 3, 1), (218, .iconst 1, 1), (219, .iadd, 1), (220, .iaload, 1), (221, .aload_n 0, 1), (222, .iload_n 3, 1), (223, .iconst 2, 1)],
  [(224, .iadd, 1), (225, .iaload, 1), (226, .invokevirtual 27, 3), (229, .pop, 1), (230, .goto 601, 3), (233, .aload_n 1, 1), (234, .aload_n 0, 1), (235, .iload_n 3, 1), (236, .iconst 1, 1), (237, .iadd, 1), (238, .iaload, 1), (239, .aload_n 0, 1)],
  [(240, .iload_n 3, 1), (241, .iconst 2, 1), (242, .iadd, 1), (243, .iaload, 1), (244, .invokevirtual 28, 3), (247, .pop, 1), (248, .aload_n 2, 1), (249, .aload_n 0, 1), (250, .iload_n 3, 1), (251, .iconst 1, 1), (252, .iadd, 1), (253, .iaload, 1), (254, .aload_n 0, 1), (255, .iload_n 3, 1)],
  [(256, .iconst 2, 1), (257, .iadd, 1), (258, .iaload, 1), (259, .invokevirtual 31, 3), (262, .pop, 1), (263, .goto 568, 3), (266, .aload_n 1, 1), (267, .aload_n 0, 1), (268, .iload_n 3, 1), (269, .iconst 1, 1), (270, .iadd, 1), (271, .iaload, 1)],
  [(272, .aload_n 0, 1), (273, .iload_n 3, 1), (274, .iconst 2, 1), (275, .iadd, 1), (276, .iaload, 1), (277, .invokevirtual 32, 3), (280, .pop, 1), (281, .aload_n 2, 1), (282, .aload_n 0, 1), (283, .iload_n 3, 1), (284, .iconst 1, 1), (285, .iadd, 1), (286, .iaload, 1), (287, .aload_n 0, 1)],
  [(288, .iload_n 3, 1), (289, .iconst 2, 1), (290, .iadd, 1), (291, .iaload, 1), (292, .invokevirtual 35, 3), (295, .pop, 1), (296, .goto 535, 3), (299, .aload_n 1, 1), (300, .aload_n 0, 1), (301, .iload_n 3, 1), (302, .iconst 1, 1), (303, .iadd, 1)],
  [(304, .iaload, 1), (305, .invokevirtual 36, 3), (308, .pop, 1), (309, .aload_n 2, 1), (310, .aload_n 0, 1), (311, .iload_n 3, 1), (312, .iconst 1, 1), (313, .iadd, 1), (314, .iaload, 1), (315, .invokevirtual 39, 3), (318, .pop, 1), (319, .goto 512, 3)],
  [(322, .aload_n 1, 1), (323, .aload_n 0, 1), (324, .iload_n 3, 1), (325, .iconst 1, 1), (326, .iadd, 1), (327, .iaload, 1), (328, .aload_n 0, 1), (329, .iload_n 3, 1), (330, .iconst 2, 1), (331, .iadd, 1), (332, .iaload, 1), (333, .invokevirtual 40, 3)],
  [(336, .pop, 1), (337, .aload_n 2, 1), (338, .aload_n 0, 1), (339, .iload_n 3, 1), (340, .iconst 1, 1), (341, .iadd, 1), (342, .iaload, 1), (343, .aload_n 0, 1), (344, .iload_n 3, 1), (345, .iconst 2, 1), (346, .iadd, 1), (347, .iaload, 1), (348, .invokevirtual 43, 3), (351, .pop, 1)],
  [(352, .goto 479, 3), (355, .aload_n 1, 1), (356, .aload_n 0, 1), (357, .iload_n 3, 1), (358, .iconst 1, 1), (359, .iadd, 1), (360, .iaload, 1), (361, .aload_n 0, 1), (362, .iload_n 3, 1), (363, .iconst 2, 1), (364, .iadd, 1), (365, .iaload, 1), (366, .invokevirtual 44, 3)],
  [(369, .pop, 1), (370, .aload_n 2, 1), (371, .aload_n 0, 1), (372, .iload_n 3, 1), (373, .iconst 1, 1), (374, .iadd, 1), (375, .iaload, 1), (376, .aload_n 0, 1), (377, .iload_n 3, 1), (378, .iconst 2, 1), (379, .iadd, 1), (380, .iaload, 1), (381, .invokevirtual 47, 3)],
  [(384, .pop, 1), (385, .goto 446, 3), (388, .aload_n 1, 1), (389, .aload_n 0, 1), (390, .iload_n 3, 1), (391, .iconst 1, 1), (392, .iadd, 1), (393, .iaload, 1), (394, .invokevirtual 48, 3), (397, .pop, 1), (398, .aload_n 2, 1), (399, .aload_n 0, 1)],
  [(400, .iload_n 3, 1), (401, .iconst 1, 1), (402, .iadd, 1), (403, .iaload, 1), (404, .invokevirtual 51, 3), (407, .pop, 1), (408, .goto 423, 3), (411, .aload_n 1, 1), (412, .invokevirtual 52, 3), (415, .pop, 1)],
  [(416, .aload_n 2, 1), (417, .invokevirtual 55, 3), (420, .pop, 1), (421, .goto 410, 3), (424, .aload_n 1, 1), (425, .aload_n 0, 1), (426, .iload_n 3, 1), (427, .iconst 1, 1), (428, .iadd, 1), (429, .iaload, 1), (430, .invokevirtual 56, 3)],
  [(433, .pop, 1), (434, .aload_n 2, 1), (435, .aload_n 0, 1), (436, .iload_n 3, 1), (437, .iconst 1, 1), (438, .iadd, 1), (439, .iaload, 1), (440, .invokevirtual 59, 3), (443, .pop, 1), (444, .goto 387, 3), (447, .aload_n 1, 1)],
  [(448, .aload_n 0, 1), (449, .iload_n 3, 1), (450, .iconst 1, 1), (451, .iadd, 1), (452, .iaload, 1), (453, .invokevirtual 60, 3), (456, .pop, 1), (457, .aload_n 2, 1), (458, .aload_n 0, 1), (459, .iload_n 3, 1), (460, .iconst 1, 1), (461, .iadd, 1), (462, .iaload, 1), (463, .invokevirtual 63, 3)],
  [(466, .pop, 1), (467, .goto 364, 3), (470, .aload_n 1, 1), (471, .invokevirtual 64, 3), (474, .pop, 1), (475, .aload_n 2, 1), (476, .invokevirtual 67, 3), (479, .pop, 1)],
  [(480, .goto 351, 3), (483, .aload_n 1, 1), (484, .aload_n 0, 1), (485, .iload_n 3, 1), (486, .iconst 1, 1), (487, .iadd, 1), (488, .iaload, 1), (489, .invokevirtual 68, 3), (492, .pop, 1), (493, .aload_n 2, 1), (494, .aload_n 0, 1), (495, .iload_n 3, 1)],
  [(496, .iconst 1, 1), (497, .iadd, 1), (498, .iaload, 1), (499, .invokevirtual 71, 3), (502, .pop, 1), (503, .goto 328, 3), (506, .aload_n 1, 1), (507, .aload_n 0, 1), (508, .iload_n 3, 1), (509, .iconst 1, 1), (510, .iadd, 1), (511, .iaload, 1)],
  [(512, .aload_n 0, 1), (513, .iload_n 3, 1), (514, .iconst 2, 1), (515, .iadd, 1), (516, .iaload, 1), (517, .invokevirtual 72, 3), (520, .pop, 1), (521, .aload_n 2, 1), (522, .aload_n 0, 1), (523, .iload_n 3, 1), (524, .iconst 1, 1), (525, .iadd, 1), (526, .iaload, 1), (527, .aload_n 0, 1)],
  [(528, .iload_n 3, 1), (529, .iconst 2, 1), (530, .iadd, 1), (531, .iaload, 1), (532, .invokevirtual 75, 3), (535, .pop, 1), (536, .goto 295, 3), (539, .aload_n 1, 1), (540, .aload_n 0, 1), (541, .iload_n 3, 1), (542, .iconst 1, 1), (543, .iadd, 1)],
  [(544, .iaload, 1), (545, .aload_n 0, 1), (546, .iload_n 3, 1), (547, .iconst 2, 1), (548, .iadd, 1), (549, .iaload, 1), (550, .invokevirtual 76, 3), (553, .pop, 1), (554, .aload_n 2, 1), (555, .aload_n 0, 1), (556, .iload_n 3, 1), (557, .iconst 1, 1), (558, .iadd, 1), (559, .iaload, 1)],
  [(560, .aload_n 0, 1), (561, .iload_n 3, 1), (562, .iconst 2, 1), (563, .iadd, 1), (564, .iaload, 1), (565, .invokevirtual 79, 3), (568, .pop, 1), (569, .goto 262, 3), (572, .aload_n 1, 1), (573, .aload_n 0, 1), (574, .iload_n 3, 1), (575, .iconst 1, 1)],
  [(576, .iadd, 1), (577, .iaload, 1), (578, .invokevirtual 80, 3), (581, .pop, 1), (582, .aload_n 2, 1), (583, .aload_n 0, 1), (584, .iload_n 3, 1), (585, .iconst 1, 1), (586, .iadd, 1), (587, .iaload, 1), (588, .invokevirtual 83, 3), (591, .pop, 1)],
  [(592, .goto 239, 3), (595, .aload_n 1, 1), (596, .aload_n 0, 1), (597, .iload_n 3, 1), (598, .iconst 1, 1), (599, .iadd, 1), (600, .iaload, 1), (601, .invokevirtual 84, 3), (604, .pop, 1), (605, .aload_n 2, 1), (606, .aload_n 0, 1), (607, .iload_n 3, 1)],
  [(608, .iconst 1, 1), (609, .iadd, 1), (610, .iaload, 1), (611, .invokevirtual 87, 3), (614, .pop, 1), (615, .goto 216, 3), (618, .aload_n 1, 1), (619, .invokevirtual 88, 3), (622, .pop, 1), (623, .aload_n 2, 1)],
  [(624, .invokevirtual 91, 3), (627, .pop, 1), (628, .goto 203, 3), (631, .aload_n 1, 1), (632, .invokevirtual 92, 3), (635, .pop, 1), (636, .aload_n 2, 1), (637, .invokevirtual 95, 3)],
  [(640, .pop, 1), (641, .goto 190, 3), (644, .aload_n 1, 1), (645, .aload_n 0, 1), (646, .iload_n 3, 1), (647, .iconst 1, 1), (648, .iadd, 1), (649, .iaload, 1), (650, .invokevirtual 96, 3), (653, .pop, 1), (654, .aload_n 2, 1), (655, .aload_n 0, 1)],
  [(656, .iload_n 3, 1), (657, .iconst 1, 1), (658, .iadd, 1), (659, .iaload, 1), (660, .invokevirtual 99, 3), (663, .pop, 1), (664, .goto 167, 3), (667, .aload_n 1, 1), (668, .aload_n 0, 1), (669, .iload_n 3, 1), (670, .iconst 1, 1), (671, .iadd, 1)],
  [(672, .iaload, 1), (673, .invokevirtual 100, 3), (676, .pop, 1), (677, .aload_n 2, 1), (678, .aload_n 0, 1), (679, .iload_n 3, 1), (680, .iconst 1, 1), (681, .iadd, 1), (682, .iaload, 1), (683, .invokevirtual 103, 3), (686, .pop, 1), (687, .goto 144, 3)],
  [(690, .aload_n 1, 1), (691, .aload_n 0, 1), (692, .iload_n 3, 1), (693, .iconst 1, 1), (694, .iadd, 1), (695, .iaload, 1), (696, .invokevirtual 104, 3), (699, .pop, 1), (700, .aload_n 2, 1), (701, .aload_n 0, 1), (702, .iload_n 3, 1), (703, .iconst 1, 1)],
  [(704, .iadd, 1), (705, .iaload, 1), (706, .invokevirtual 107, 3), (709, .pop, 1), (710, .goto 121, 3), (713, .aload_n 1, 1), (714, .aload_n 0, 1), (715, .iload_n 3, 1), (716, .iconst 1, 1), (717, .iadd, 1), (718, .iaload, 1), (719, .invokevirtual 108, 3)],
  [(722, .pop, 1), (723, .aload_n 2, 1), (724, .aload_n 0, 1), (725, .iload_n 3, 1), (726, .iconst 1, 1), (727, .iadd, 1), (728, .iaload, 1), (729, .invokevirtual 111, 3), (732, .pop, 1), (733, .goto 98, 3)],
  [(736, .aload_n 1, 1), (737, .invokevirtual 112, 3), (740, .pop, 1), (741, .aload_n 2, 1), (742, .invokevirtual 115, 3), (745, .pop, 1), (746, .goto 85, 3), (749, .aload_n 1, 1), (750, .aload_n 0, 1), (751, .iload_n 3, 1)],
  [(752, .iconst 1, 1), (753, .iadd, 1), (754, .iaload, 1), (755, .aload_n 0, 1), (756, .iload_n 3, 1), (757, .iconst 2, 1), (758, .iadd, 1), (759, .iaload, 1), (760, .invokevirtual 116, 3), (763, .pop, 1), (764, .aload_n 2, 1), (765, .aload_n 0, 1), (766, .iload_n 3, 1), (767, .iconst 1, 1)],
  [(768, .iadd, 1), (769, .iaload, 1), (770, .aload_n 0, 1), (771, .iload_n 3, 1), (772, .iconst 2, 1), (773, .iadd, 1), (774, .iaload, 1), (775, .invokevirtual 119, 3), (778, .pop, 1), (779, .goto 52, 3), (782, .aload_n 1, 1), (783, .invokevirtual 120, 3)],
  [(786, .pop, 1), (787, .aload_n 2, 1), (788, .invokevirtual 123, 3), (791, .pop, 1), (792, .goto 39, 3), (795, .aload_n 1, 1), (796, .invokevirtual 124, 3), (799, .pop, 1)],
  [(800, .aload_n 2, 1), (801, .invokevirtual 127, 3), (804, .pop, 1), (805, .goto 26, 3), (808, .aload_n 1, 1), (809, .aload_n 0, 1), (810, .iload_n 3, 1), (811, .iconst 1, 1), (812, .iadd, 1), (813, .iaload, 1), (814, .invokevirtual 128, 3)],
  [(817, .aload_n 2, 1), (818, .aload_n 0, 1), (819, .iload_n 3, 1), (820, .iconst 1, 1), (821, .iadd, 1), (822, .iaload, 1), (823, .invokevirtual 131, 3), (826, .if_icmp .eq 5, 3), (829, .iconst 0, 1), (830, .ireturn, 1), (831, .iinc 3 3, 3)],
  [(834, .goto (-816), 3), (837, .iconst 1, 1), (838, .ireturn, 1)]]
def mL_law : x_M := (yL_law, code, 4, some .boolean, kL_law, IL)
theorem x_half {α : Type} {P : α → Prop} (l : List α) (n : Nat) (h1 : ∀ x ∈ l.take n, P x) (h2 : ∀ x ∈ l.drop n, P x) : ∀ x ∈ l, P x := by
  intro x hx
  rw [← List.take_append_drop n l] at hx
  exact (List.mem_append.mp hx).elim (h1 x) (h2 x)
set_option maxRecDepth 100000 in
theorem decL_law_0 : ∀ ch ∈ (kL_law).take 8, ∀ e ∈ ch, decode code e.1 = .ok e.2 := by decide +kernel
set_option maxRecDepth 100000 in
theorem decL_law_1 : ∀ ch ∈ ((kL_law).drop 8).take 8, ∀ e ∈ ch, decode code e.1 = .ok e.2 := by decide +kernel
set_option maxRecDepth 100000 in
theorem decL_law_2 : ∀ ch ∈ (((kL_law).drop 8).drop 8).take 8, ∀ e ∈ ch, decode code e.1 = .ok e.2 := by decide +kernel
set_option maxRecDepth 100000 in
theorem decL_law_3 : ∀ ch ∈ ((((kL_law).drop 8).drop 8).drop 8).take 8, ∀ e ∈ ch, decode code e.1 = .ok e.2 := by decide +kernel
set_option maxRecDepth 100000 in
theorem decL_law_4 : ∀ ch ∈ (((((kL_law).drop 8).drop 8).drop 8).drop 8).take 8, ∀ e ∈ ch, decode code e.1 = .ok e.2 := by decide +kernel
set_option maxRecDepth 100000 in
theorem decL_law_5 : ∀ ch ∈ ((((((kL_law).drop 8).drop 8).drop 8).drop 8).drop 8).take 8, ∀ e ∈ ch, decode code e.1 = .ok e.2 := by decide +kernel
set_option maxRecDepth 100000 in
theorem decL_law_6 : ∀ ch ∈ ((((((kL_law).drop 8).drop 8).drop 8).drop 8).drop 8).drop 8, ∀ e ∈ ch, decode code e.1 = .ok e.2 := by decide +kernel
theorem decL_law : x_dec mL_law := x_half _ 8 decL_law_0 (x_half _ 8 decL_law_1 (x_half _ 8 decL_law_2 (x_half _ 8 decL_law_3 (x_half _ 8 decL_law_4 (x_half _ 8 decL_law_5 (decL_law_6))))))
theorem sL_9 : x_sI "PurseOfNineBowlsLaw" 9 mX5_init 0 false := ⟨fun _ => x_k1 (List.mem_of_getElem? (i := 13) rfl) rfl, fun h => (by cases h), vX5_init, rfl, rfl, x_pd0⟩
theorem sL_13 : x_sV "PurseOfNineBowlsLaw" 13 mX5_letter 1 5 := ⟨x_k1 (List.mem_of_getElem? (i := 196) rfl) rfl, vX5_letter.1, vX5_letter.2, x_pd6, (RX5, TX5, 12), rfl, rfl⟩
theorem sL_18 : x_sV "PurseOfNineBowlsLaw" 18 mX5_game 0 5 := ⟨x_k1 (List.mem_of_getElem? (i := 208) rfl) rfl, vX5_game.1, vX5_game.2, x_pd12, (RX5, TX5, 12), rfl, rfl⟩
theorem sL_23 : x_sV "PurseOfNineBowlsLaw" 23 mX5_bowl 2 5 := ⟨x_k2 (List.mem_of_getElem? (i := 86) rfl) rfl, vX5_bowl.1, vX5_bowl.2, x_pd13, (RX5, TX5, 12), rfl, rfl⟩
theorem sL_28 : x_sV "PurseOfNineBowlsLaw" 28 mX5_put 2 5 := ⟨x_k2 (List.mem_of_getElem? (i := 98) rfl) rfl, vX5_put.1, vX5_put.2, x_pd13, (RX5, TX5, 12), rfl, rfl⟩
theorem sL_32 : x_sV "PurseOfNineBowlsLaw" 32 mX5_set 2 5 := ⟨x_k2 (List.mem_of_getElem? (i := 103) rfl) rfl, vX5_set.1, vX5_set.2, x_pd13, (RX5, TX5, 12), rfl, rfl⟩
theorem sL_36 : x_sV "PurseOfNineBowlsLaw" 36 mX5_move 1 5 := ⟨x_k2 (List.mem_of_getElem? (i := 107) rfl) rfl, vX5_move.1, vX5_move.2, x_pd6, (RX5, TX5, 12), rfl, rfl⟩
theorem sL_40 : x_sV "PurseOfNineBowlsLaw" 40 mX5_by 2 5 := ⟨x_k2 (List.mem_of_getElem? (i := 113) rfl) rfl, vX5_by.1, vX5_by.2, x_pd13, (RX5, TX5, 12), rfl, rfl⟩
theorem sL_44 : x_sV "PurseOfNineBowlsLaw" 44 mX5_behind 2 5 := ⟨x_k2 (List.mem_of_getElem? (i := 125) rfl) rfl, vX5_behind.1, vX5_behind.2, x_pd13, (RX5, TX5, 12), rfl, rfl⟩
theorem sL_48 : x_sV "PurseOfNineBowlsLaw" 48 mX5_empties 1 5 := ⟨x_k2 (List.mem_of_getElem? (i := 129) rfl) rfl, vX5_empties.1, vX5_empties.2, x_pd6, (RX5, TX5, 12), rfl, rfl⟩
theorem sL_52 : x_sV "PurseOfNineBowlsLaw" 52 mX5_longest 0 5 := ⟨x_k2 (List.mem_of_getElem? (i := 133) rfl) rfl, vX5_longest.1, vX5_longest.2, x_pd12, (RX5, TX5, 12), rfl, rfl⟩
theorem sL_56 : x_sV "PurseOfNineBowlsLaw" 56 mX5_best 1 5 := ⟨x_k2 (List.mem_of_getElem? (i := 137) rfl) rfl, vX5_best.1, vX5_best.2, x_pd6, (RX5, TX5, 12), rfl, rfl⟩
theorem sL_60 : x_sV "PurseOfNineBowlsLaw" 60 mX5_worth 1 5 := ⟨x_k2 (List.mem_of_getElem? (i := 158) rfl) rfl, vX5_worth.1, vX5_worth.2, x_pd6, (RX5, TX5, 12), rfl, rfl⟩
theorem sL_64 : x_sV "PurseOfNineBowlsLaw" 64 mX5_lost 0 5 := ⟨x_k2 (List.mem_of_getElem? (i := 168) rfl) rfl, vX5_lost.1, vX5_lost.2, x_pd12, (RX5, TX5, 12), rfl, rfl⟩
theorem sL_68 : x_sV "PurseOfNineBowlsLaw" 68 mX5_back 1 5 := ⟨x_k2 (List.mem_of_getElem? (i := 172) rfl) rfl, vX5_back.1, vX5_back.2, x_pd6, (RX5, TX5, 12), rfl, rfl⟩
theorem sL_72 : x_sV "PurseOfNineBowlsLaw" 72 mX5_loop 2 5 := ⟨x_k2 (List.mem_of_getElem? (i := 180) rfl) rfl, vX5_loop.1, vX5_loop.2, x_pd13, (RX5, TX5, 12), rfl, rfl⟩
theorem sL_76 : x_sV "PurseOfNineBowlsLaw" 76 mX5_toEmpty 2 5 := ⟨x_k2 (List.mem_of_getElem? (i := 193) rfl) rfl, vX5_toEmpty.1, vX5_toEmpty.2, x_pd13, (RX5, TX5, 12), rfl, rfl⟩
theorem sL_80 : x_sV "PurseOfNineBowlsLaw" 80 mX5_price 1 5 := ⟨x_k2 (List.mem_of_getElem? (i := 226) rfl) rfl, vX5_price.1, vX5_price.2, x_pd6, (RX5, TX5, 12), rfl, rfl⟩
theorem sL_84 : x_sV "PurseOfNineBowlsLaw" 84 mX5_sold 1 5 := ⟨x_k2 (List.mem_of_getElem? (i := 234) rfl) rfl, vX5_sold.1, vX5_sold.2, x_pd6, (RX5, TX5, 12), rfl, rfl⟩
theorem sL_88 : x_sV "PurseOfNineBowlsLaw" 88 mX5_change 0 5 := ⟨x_k2 (List.mem_of_getElem? (i := 238) rfl) rfl, vX5_change.1, vX5_change.2, x_pd12, (RX5, TX5, 12), rfl, rfl⟩
theorem sL_92 : x_sV "PurseOfNineBowlsLaw" 92 mX5_fair 0 5 := ⟨x_k3 (List.mem_of_getElem? (i := 3) rfl) rfl, vX5_fair.1, vX5_fair.2, x_pd12, (RX5, TX5, 12), rfl, rfl⟩
theorem sL_96 : x_sV "PurseOfNineBowlsLaw" 96 mX5_sounds 1 5 := ⟨x_k3 (List.mem_of_getElem? (i := 7) rfl) rfl, vX5_sounds.1, vX5_sounds.2, x_pd6, (RX5, TX5, 12), rfl, rfl⟩
theorem sL_100 : x_sV "PurseOfNineBowlsLaw" 100 mX5_next 1 5 := ⟨x_k3 (List.mem_of_getElem? (i := 35) rfl) rfl, vX5_next.1, vX5_next.2, x_pd6, (RX5, TX5, 12), rfl, rfl⟩
theorem sL_104 : x_sV "PurseOfNineBowlsLaw" 104 mX5_played 1 5 := ⟨x_k3 (List.mem_of_getElem? (i := 47) rfl) rfl, vX5_played.1, vX5_played.2, x_pd6, (RX5, TX5, 12), rfl, rfl⟩
theorem sL_108 : x_sV "PurseOfNineBowlsLaw" 108 mX5_row 1 5 := ⟨x_k3 (List.mem_of_getElem? (i := 59) rfl) rfl, vX5_row.1, vX5_row.2, x_pd6, (RX5, TX5, 12), rfl, rfl⟩
theorem sL_112 : x_sV "PurseOfNineBowlsLaw" 112 mX5_judge 0 5 := ⟨x_k3 (List.mem_of_getElem? (i := 63) rfl) rfl, vX5_judge.1, vX5_judge.2, x_pd12, (RX5, TX5, 12), rfl, rfl⟩
theorem sL_116 : x_sV "PurseOfNineBowlsLaw" 116 mX5_lots 2 5 := ⟨x_k3 (List.mem_of_getElem? (i := 67) rfl) rfl, vX5_lots.1, vX5_lots.2, x_pd13, (RX5, TX5, 12), rfl, rfl⟩
theorem sL_120 : x_sV "PurseOfNineBowlsLaw" 120 mX5_image 0 5 := ⟨x_k3 (List.mem_of_getElem? (i := 78) rfl) rfl, vX5_image.1, vX5_image.2, x_pd12, (RX5, TX5, 12), rfl, rfl⟩
theorem sL_124 : x_sV "PurseOfNineBowlsLaw" 124 mX5_on 0 5 := ⟨x_k3 (List.mem_of_getElem? (i := 82) rfl) rfl, vX5_on.1, vX5_on.2, x_pd12, (RX5, TX5, 12), rfl, rfl⟩
theorem sL_128 : x_sV "PurseOfNineBowlsLaw" 128 mX5_count 1 5 := ⟨x_k3 (List.mem_of_getElem? (i := 86) rfl) rfl, vX5_count.1, vX5_count.2, x_pd6, (RX5, TX5, 12), rfl, rfl⟩
theorem sL_12 : x_sI "PurseOfNineBowlsLaw" 12 mX6_init 0 false := ⟨fun _ => x_k3 (List.mem_of_getElem? (i := 92) rfl) rfl, fun h => (by cases h), vX6_init, rfl, rfl, x_pd0⟩
theorem sL_17 : x_sV "PurseOfNineBowlsLaw" 17 mX6_letter 1 6 := ⟨x_k3 (List.mem_of_getElem? (i := 192) rfl) rfl, vX6_letter.1, vX6_letter.2, x_pd6, (RX6, TX6, 32), rfl, rfl⟩
theorem sL_22 : x_sV "PurseOfNineBowlsLaw" 22 mX6_game 0 6 := ⟨x_k3 (List.mem_of_getElem? (i := 200) rfl) rfl, vX6_game.1, vX6_game.2, x_pd12, (RX6, TX6, 32), rfl, rfl⟩
theorem sL_27 : x_sV "PurseOfNineBowlsLaw" 27 mX6_bowl 2 6 := ⟨x_k4 (List.mem_of_getElem? (i := 41) rfl) rfl, vX6_bowl.1, vX6_bowl.2, x_pd13, (RX6, TX6, 32), rfl, rfl⟩
theorem sL_31 : x_sV "PurseOfNineBowlsLaw" 31 mX6_put 2 6 := ⟨x_k4 (List.mem_of_getElem? (i := 46) rfl) rfl, vX6_put.1, vX6_put.2, x_pd13, (RX6, TX6, 32), rfl, rfl⟩
theorem sL_35 : x_sV "PurseOfNineBowlsLaw" 35 mX6_set 2 6 := ⟨x_k4 (List.mem_of_getElem? (i := 50) rfl) rfl, vX6_set.1, vX6_set.2, x_pd13, (RX6, TX6, 32), rfl, rfl⟩
theorem sL_39 : x_sV "PurseOfNineBowlsLaw" 39 mX6_move 1 6 := ⟨x_k4 (List.mem_of_getElem? (i := 55) rfl) rfl, vX6_move.1, vX6_move.2, x_pd6, (RX6, TX6, 32), rfl, rfl⟩
theorem sL_43 : x_sV "PurseOfNineBowlsLaw" 43 mX6_by 2 6 := ⟨x_k4 (List.mem_of_getElem? (i := 59) rfl) rfl, vX6_by.1, vX6_by.2, x_pd13, (RX6, TX6, 32), rfl, rfl⟩
theorem sL_47 : x_sV "PurseOfNineBowlsLaw" 47 mX6_behind 2 6 := ⟨x_k4 (List.mem_of_getElem? (i := 68) rfl) rfl, vX6_behind.1, vX6_behind.2, x_pd13, (RX6, TX6, 32), rfl, rfl⟩
theorem sL_51 : x_sV "PurseOfNineBowlsLaw" 51 mX6_empties 1 6 := ⟨x_k4 (List.mem_of_getElem? (i := 72) rfl) rfl, vX6_empties.1, vX6_empties.2, x_pd6, (RX6, TX6, 32), rfl, rfl⟩
theorem sL_55 : x_sV "PurseOfNineBowlsLaw" 55 mX6_longest 0 6 := ⟨x_k4 (List.mem_of_getElem? (i := 76) rfl) rfl, vX6_longest.1, vX6_longest.2, x_pd12, (RX6, TX6, 32), rfl, rfl⟩
theorem sL_59 : x_sV "PurseOfNineBowlsLaw" 59 mX6_best 1 6 := ⟨x_k4 (List.mem_of_getElem? (i := 80) rfl) rfl, vX6_best.1, vX6_best.2, x_pd6, (RX6, TX6, 32), rfl, rfl⟩
theorem sL_63 : x_sV "PurseOfNineBowlsLaw" 63 mX6_worth 1 6 := ⟨x_k4 (List.mem_of_getElem? (i := 88) rfl) rfl, vX6_worth.1, vX6_worth.2, x_pd6, (RX6, TX6, 32), rfl, rfl⟩
theorem sL_67 : x_sV "PurseOfNineBowlsLaw" 67 mX6_lost 0 6 := ⟨x_k4 (List.mem_of_getElem? (i := 101) rfl) rfl, vX6_lost.1, vX6_lost.2, x_pd12, (RX6, TX6, 32), rfl, rfl⟩
theorem sL_71 : x_sV "PurseOfNineBowlsLaw" 71 mX6_back 1 6 := ⟨x_k4 (List.mem_of_getElem? (i := 105) rfl) rfl, vX6_back.1, vX6_back.2, x_pd6, (RX6, TX6, 32), rfl, rfl⟩
theorem sL_75 : x_sV "PurseOfNineBowlsLaw" 75 mX6_loop 2 6 := ⟨x_k4 (List.mem_of_getElem? (i := 121) rfl) rfl, vX6_loop.1, vX6_loop.2, x_pd13, (RX6, TX6, 32), rfl, rfl⟩
theorem sL_79 : x_sV "PurseOfNineBowlsLaw" 79 mX6_toEmpty 2 6 := ⟨x_k4 (List.mem_of_getElem? (i := 125) rfl) rfl, vX6_toEmpty.1, vX6_toEmpty.2, x_pd13, (RX6, TX6, 32), rfl, rfl⟩
theorem sL_83 : x_sV "PurseOfNineBowlsLaw" 83 mX6_price 1 6 := ⟨x_k4 (List.mem_of_getElem? (i := 133) rfl) rfl, vX6_price.1, vX6_price.2, x_pd6, (RX6, TX6, 32), rfl, rfl⟩
theorem sL_87 : x_sV "PurseOfNineBowlsLaw" 87 mX6_sold 1 6 := ⟨x_k4 (List.mem_of_getElem? (i := 141) rfl) rfl, vX6_sold.1, vX6_sold.2, x_pd6, (RX6, TX6, 32), rfl, rfl⟩
theorem sL_91 : x_sV "PurseOfNineBowlsLaw" 91 mX6_change 0 6 := ⟨x_k4 (List.mem_of_getElem? (i := 145) rfl) rfl, vX6_change.1, vX6_change.2, x_pd12, (RX6, TX6, 32), rfl, rfl⟩
theorem sL_95 : x_sV "PurseOfNineBowlsLaw" 95 mX6_fair 0 6 := ⟨x_k4 (List.mem_of_getElem? (i := 149) rfl) rfl, vX6_fair.1, vX6_fair.2, x_pd12, (RX6, TX6, 32), rfl, rfl⟩
theorem sL_99 : x_sV "PurseOfNineBowlsLaw" 99 mX6_sounds 1 6 := ⟨x_k4 (List.mem_of_getElem? (i := 153) rfl) rfl, vX6_sounds.1, vX6_sounds.2, x_pd6, (RX6, TX6, 32), rfl, rfl⟩
theorem sL_103 : x_sV "PurseOfNineBowlsLaw" 103 mX6_next 1 6 := ⟨x_k4 (List.mem_of_getElem? (i := 166) rfl) rfl, vX6_next.1, vX6_next.2, x_pd6, (RX6, TX6, 32), rfl, rfl⟩
theorem sL_111 : x_sV "PurseOfNineBowlsLaw" 111 mX6_row 1 6 := ⟨x_k4 (List.mem_of_getElem? (i := 170) rfl) rfl, vX6_row.1, vX6_row.2, x_pd6, (RX6, TX6, 32), rfl, rfl⟩
theorem sL_107 : x_sV "PurseOfNineBowlsLaw" 107 mX6_played 1 6 := ⟨x_k4 (List.mem_of_getElem? (i := 174) rfl) rfl, vX6_played.1, vX6_played.2, x_pd6, (RX6, TX6, 32), rfl, rfl⟩
theorem sL_115 : x_sV "PurseOfNineBowlsLaw" 115 mX6_judge 0 6 := ⟨x_k4 (List.mem_of_getElem? (i := 182) rfl) rfl, vX6_judge.1, vX6_judge.2, x_pd12, (RX6, TX6, 32), rfl, rfl⟩
theorem sL_119 : x_sV "PurseOfNineBowlsLaw" 119 mX6_lots 2 6 := ⟨x_k4 (List.mem_of_getElem? (i := 186) rfl) rfl, vX6_lots.1, vX6_lots.2, x_pd13, (RX6, TX6, 32), rfl, rfl⟩
theorem sL_123 : x_sV "PurseOfNineBowlsLaw" 123 mX6_image 0 6 := ⟨x_k4 (List.mem_of_getElem? (i := 193) rfl) rfl, vX6_image.1, vX6_image.2, x_pd12, (RX6, TX6, 32), rfl, rfl⟩
theorem sL_127 : x_sV "PurseOfNineBowlsLaw" 127 mX6_on 0 6 := ⟨x_k4 (List.mem_of_getElem? (i := 197) rfl) rfl, vX6_on.1, vX6_on.2, x_pd12, (RX6, TX6, 32), rfl, rfl⟩
theorem sL_131 : x_sV "PurseOfNineBowlsLaw" 131 mX6_count 1 6 := ⟨x_k4 (List.mem_of_getElem? (i := 201) rfl) rfl, vX6_count.1, vX6_count.2, x_pd6, (RX6, TX6, 32), rfl, rfl⟩
