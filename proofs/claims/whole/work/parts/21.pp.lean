def pp0 : List EN := p0_0
theorem sq0_0 : seek pp0 0 = p0_0 := sk0_0
theorem sq0_18 : seek pp0 18 = p0_18 := sk0_18
set_option maxRecDepth 100000 in
theorem sq0_184 : seek pp0 184 = p0_184 := sk0_184
set_option maxRecDepth 100000 in
theorem sq0_217 : seek pp0 217 = p0_217 := sk0_217
set_option maxRecDepth 100000 in
theorem sq0_260 : seek pp0 260 = p0_260 := sk0_260
set_option maxRecDepth 100000 in
theorem sq0_283 : seek pp0 283 = p0_283 := sk0_283
set_option maxRecDepth 100000 in
theorem sq0_316 : seek pp0 316 = p0_316 := sk0_316
set_option maxRecDepth 100000 in
theorem sq0_349 : seek pp0 349 = p0_349 := sk0_349
set_option maxRecDepth 100000 in
theorem sq0_372 : seek pp0 372 = p0_372 := sk0_372
set_option maxRecDepth 100000 in
theorem sq0_395 : seek pp0 395 = p0_395 := sk0_395
set_option maxRecDepth 100000 in
theorem sq0_428 : seek pp0 428 = p0_428 := sk0_428
set_option maxRecDepth 100000 in
theorem sq0_471 : seek pp0 471 = p0_471 := sk0_471
set_option maxRecDepth 100000 in
theorem sq0_504 : seek pp0 504 = p0_504 := sk0_504
set_option maxRecDepth 100000 in
theorem sq0_527 : seek pp0 527 = p0_527 := sk0_527
set_option maxRecDepth 100000 in
theorem sq0_528 : seek pp0 528 = p0_528 := sk0_528
set_option maxRecDepth 100000 in
theorem sq0_554 : seek pp0 554 = p0_554 := sk0_554
set_option maxRecDepth 100000 in
theorem sq0_555 : seek pp0 555 = p0_555 := sk0_555
set_option maxRecDepth 100000 in
theorem sq0_563 : seek pp0 563 = p0_563 := sk0_563
set_option maxRecDepth 100000 in
theorem sq0_596 : seek pp0 596 = p0_596 := sk0_596
set_option maxRecDepth 100000 in
theorem sq0_619 : seek pp0 619 = p0_619 := sk0_619
set_option maxRecDepth 100000 in
theorem sq0_632 : seek pp0 632 = p0_632 := sk0_632
set_option maxRecDepth 100000 in
theorem sq0_650 : seek pp0 650 = p0_650 := sk0_650
set_option maxRecDepth 100000 in
theorem sq0_651 : seek pp0 651 = p0_651 := sk0_651
set_option maxRecDepth 100000 in
theorem sq0_672 : seek pp0 672 = p0_672 := sk0_672
set_option maxRecDepth 100000 in
theorem sq0_673 : seek pp0 673 = p0_673 := sk0_673
set_option maxRecDepth 100000 in
theorem sq0_681 : seek pp0 681 = p0_681 := sk0_681
set_option maxRecDepth 100000 in
theorem sq0_724 : seek pp0 724 = p0_724 := sk0_724
set_option maxRecDepth 100000 in
theorem sq0_737 : seek pp0 737 = p0_737 := sk0_737
set_option maxRecDepth 100000 in
theorem sq0_770 : seek pp0 770 = p0_770 := sk0_770
set_option maxRecDepth 100000 in
theorem sq0_793 : seek pp0 793 = p0_793 := sk0_793
set_option maxRecDepth 100000 in
theorem sq0_816 : seek pp0 816 = p0_816 := sk0_816
set_option maxRecDepth 100000 in
theorem sq0_829 : seek pp0 829 = p0_829 := sk0_829
set_option maxRecDepth 100000 in
theorem sq0_830 : seek pp0 830 = p0_830 := sk0_830
set_option maxRecDepth 100000 in
theorem sq0_846 : seek pp0 846 = p0_846 := sk0_846
set_option maxRecDepth 100000 in
theorem sq0_847 : seek pp0 847 = p0_847 := sk0_847
set_option maxRecDepth 100000 in
theorem sq0_855 : seek pp0 855 = p0_855 := sk0_855
set_option maxRecDepth 100000 in
theorem sq0_868 : seek pp0 868 = p0_868 := sk0_868
set_option maxRecDepth 100000 in
theorem sq0_901 : seek pp0 901 = p0_901 := sk0_901
set_option maxRecDepth 100000 in
theorem sq0_924 : seek pp0 924 = p0_924 := sk0_924
set_option maxRecDepth 100000 in
theorem sq0_957 : seek pp0 957 = p0_957 := sk0_957
set_option maxRecDepth 100000 in
theorem sq0_990 : seek pp0 990 = p0_990 := sk0_990
set_option maxRecDepth 100000 in
theorem sq0_1013 : seek pp0 1013 = p0_1013 := sk0_1013
set_option maxRecDepth 100000 in
theorem sq0_1046 : seek pp0 1046 = p0_1046 := sk0_1046
set_option maxRecDepth 100000 in
theorem sq0_1089 : seek pp0 1089 = p0_1089 := sk0_1089
set_option maxRecDepth 100000 in
theorem sq0_1132 : seek pp0 1132 = p0_1132 := sk0_1132
set_option maxRecDepth 100000 in
theorem sq0_1195 : seek pp0 1195 = p0_1195 := sk0_1195
set_option maxRecDepth 100000 in
theorem sq0_1228 : seek pp0 1228 = p0_1228 := sk0_1228
set_option maxRecDepth 100000 in
theorem sq0_1241 : seek pp0 1241 = p0_1241 := sk0_1241
set_option maxRecDepth 100000 in
theorem sq0_1264 : seek pp0 1264 = p0_1264 := sk0_1264
set_option maxRecDepth 100000 in
theorem sq0_1270 : seek pp0 1270 = p0_1270 := sk0_1270
set_option maxRecDepth 100000 in
theorem sq0_7 : seek pp0 7 = (7, false, 35, 0, 1, 0, 0) :: (8, false, 21, 0, 11, 0, 810) :: (11, false, 22, 0, 0, 0, 0) :: (12, false, 32, 11, 46, 1, 812) :: (15, false, 35, 0, 2, 0, 0) :: (16, false, 0, 0, 0, 0, 0) :: (17, false, 2, 0, 3, 0, 0) :: p0_18 := rfl
set_option maxRecDepth 100000 in
theorem sq0_15 : seek pp0 15 = (15, false, 35, 0, 2, 0, 0) :: (16, false, 0, 0, 0, 0, 0) :: (17, false, 2, 0, 3, 0, 0) :: p0_18 := rfl
set_option maxRecDepth 100000 in
theorem sq0_198 : seek pp0 198 = (198, false, 34, 0, 2, 0, 0) :: (199, false, 34, 0, 0, 0, 0) :: (200, false, 1, 0, 3, 0, 0) :: (201, false, 0, 1, 0, 0, 0) :: (202, false, 4, 0, 0, 0, 0) :: (203, false, 12, 0, 0, 0, 0) :: (204, false, 34, 0, 0, 0, 0) :: (205, false, 1, 0, 3, 0, 0) :: (206, false, 0, 2, 0, 0, 0) :: (207, false, 4, 0, 0, 0, 0) :: (208, false, 12, 0, 0, 0, 0) :: (209, false, 32, 11, 59, 3, 899) :: (212, false, 6, 0, 0, 1264, 0) :: (215, false, 0, 0, 0, 0, 0) :: (216, false, 25, 0, 0, 0, 0) :: p0_217 := rfl
set_option maxRecDepth 100000 in
theorem sq0_212 : seek pp0 212 = (212, false, 6, 0, 0, 1264, 0) :: (215, false, 0, 0, 0, 0, 0) :: (216, false, 25, 0, 0, 0, 0) :: p0_217 := rfl
set_option maxRecDepth 100000 in
theorem sq0_236 : seek pp0 236 = (236, false, 34, 0, 2, 0, 0) :: (237, false, 34, 0, 0, 0, 0) :: (238, false, 1, 0, 3, 0, 0) :: (239, false, 0, 1, 0, 0, 0) :: (240, false, 4, 0, 0, 0, 0) :: (241, false, 12, 0, 0, 0, 0) :: (242, false, 34, 0, 0, 0, 0) :: (243, false, 1, 0, 3, 0, 0) :: (244, false, 0, 2, 0, 0, 0) :: (245, false, 4, 0, 0, 0, 0) :: (246, false, 12, 0, 0, 0, 0) :: (247, false, 34, 0, 0, 0, 0) :: (248, false, 1, 0, 3, 0, 0) :: (249, false, 0, 3, 0, 0, 0) :: (250, false, 4, 0, 0, 0, 0) :: (251, false, 12, 0, 0, 0, 0) :: (252, false, 32, 11, 61, 4, 927) :: (255, false, 6, 0, 0, 1264, 0) :: (258, false, 0, 0, 0, 0, 0) :: (259, false, 25, 0, 0, 0, 0) :: p0_260 := rfl
set_option maxRecDepth 100000 in
theorem sq0_255 : seek pp0 255 = (255, false, 6, 0, 0, 1264, 0) :: (258, false, 0, 0, 0, 0, 0) :: (259, false, 25, 0, 0, 0, 0) :: p0_260 := rfl
set_option maxRecDepth 100000 in
theorem sq0_269 : seek pp0 269 = (269, false, 34, 0, 2, 0, 0) :: (270, false, 34, 0, 0, 0, 0) :: (271, false, 1, 0, 3, 0, 0) :: (272, false, 0, 1, 0, 0, 0) :: (273, false, 4, 0, 0, 0, 0) :: (274, false, 12, 0, 0, 0, 0) :: (275, false, 32, 11, 62, 2, 944) :: (278, false, 6, 0, 0, 1264, 0) :: (281, false, 0, 0, 0, 0, 0) :: (282, false, 25, 0, 0, 0, 0) :: p0_283 := rfl
set_option maxRecDepth 100000 in
theorem sq0_278 : seek pp0 278 = (278, false, 6, 0, 0, 1264, 0) :: (281, false, 0, 0, 0, 0, 0) :: (282, false, 25, 0, 0, 0, 0) :: p0_283 := rfl
set_option maxRecDepth 100000 in
theorem sq0_297 : seek pp0 297 = (297, false, 34, 0, 2, 0, 0) :: (298, false, 34, 0, 0, 0, 0) :: (299, false, 1, 0, 3, 0, 0) :: (300, false, 0, 1, 0, 0, 0) :: (301, false, 4, 0, 0, 0, 0) :: (302, false, 12, 0, 0, 0, 0) :: (303, false, 34, 0, 0, 0, 0) :: (304, false, 1, 0, 3, 0, 0) :: (305, false, 0, 2, 0, 0, 0) :: (306, false, 4, 0, 0, 0, 0) :: (307, false, 12, 0, 0, 0, 0) :: (308, false, 32, 11, 63, 3, 948) :: (311, false, 6, 0, 0, 1264, 0) :: (314, false, 0, 0, 0, 0, 0) :: (315, false, 25, 0, 0, 0, 0) :: p0_316 := rfl
set_option maxRecDepth 100000 in
theorem sq0_311 : seek pp0 311 = (311, false, 6, 0, 0, 1264, 0) :: (314, false, 0, 0, 0, 0, 0) :: (315, false, 25, 0, 0, 0, 0) :: p0_316 := rfl
set_option maxRecDepth 100000 in
theorem sq0_330 : seek pp0 330 = (330, false, 34, 0, 2, 0, 0) :: (331, false, 34, 0, 0, 0, 0) :: (332, false, 1, 0, 3, 0, 0) :: (333, false, 0, 1, 0, 0, 0) :: (334, false, 4, 0, 0, 0, 0) :: (335, false, 12, 0, 0, 0, 0) :: (336, false, 34, 0, 0, 0, 0) :: (337, false, 1, 0, 3, 0, 0) :: (338, false, 0, 2, 0, 0, 0) :: (339, false, 4, 0, 0, 0, 0) :: (340, false, 12, 0, 0, 0, 0) :: (341, false, 32, 11, 64, 3, 953) :: (344, false, 6, 0, 0, 1264, 0) :: (347, false, 0, 0, 0, 0, 0) :: (348, false, 25, 0, 0, 0, 0) :: p0_349 := rfl
set_option maxRecDepth 100000 in
theorem sq0_344 : seek pp0 344 = (344, false, 6, 0, 0, 1264, 0) :: (347, false, 0, 0, 0, 0, 0) :: (348, false, 25, 0, 0, 0, 0) :: p0_349 := rfl
set_option maxRecDepth 100000 in
theorem sq0_358 : seek pp0 358 = (358, false, 34, 0, 2, 0, 0) :: (359, false, 34, 0, 0, 0, 0) :: (360, false, 1, 0, 3, 0, 0) :: (361, false, 0, 1, 0, 0, 0) :: (362, false, 4, 0, 0, 0, 0) :: (363, false, 12, 0, 0, 0, 0) :: (364, false, 32, 11, 65, 2, 957) :: (367, false, 6, 0, 0, 1264, 0) :: (370, false, 0, 0, 0, 0, 0) :: (371, false, 25, 0, 0, 0, 0) :: p0_372 := rfl
set_option maxRecDepth 100000 in
theorem sq0_367 : seek pp0 367 = (367, false, 6, 0, 0, 1264, 0) :: (370, false, 0, 0, 0, 0, 0) :: (371, false, 25, 0, 0, 0, 0) :: p0_372 := rfl
set_option maxRecDepth 100000 in
theorem sq0_381 : seek pp0 381 = (381, false, 34, 0, 2, 0, 0) :: (382, false, 34, 0, 0, 0, 0) :: (383, false, 1, 0, 3, 0, 0) :: (384, false, 0, 1, 0, 0, 0) :: (385, false, 4, 0, 0, 0, 0) :: (386, false, 12, 0, 0, 0, 0) :: (387, false, 32, 11, 66, 2, 961) :: (390, false, 6, 0, 0, 1264, 0) :: (393, false, 0, 0, 0, 0, 0) :: (394, false, 25, 0, 0, 0, 0) :: p0_395 := rfl
set_option maxRecDepth 100000 in
theorem sq0_390 : seek pp0 390 = (390, false, 6, 0, 0, 1264, 0) :: (393, false, 0, 0, 0, 0, 0) :: (394, false, 25, 0, 0, 0, 0) :: p0_395 := rfl
set_option maxRecDepth 100000 in
theorem sq0_409 : seek pp0 409 = (409, false, 34, 0, 2, 0, 0) :: (410, false, 34, 0, 0, 0, 0) :: (411, false, 1, 0, 3, 0, 0) :: (412, false, 0, 1, 0, 0, 0) :: (413, false, 4, 0, 0, 0, 0) :: (414, false, 12, 0, 0, 0, 0) :: (415, false, 34, 0, 0, 0, 0) :: (416, false, 1, 0, 3, 0, 0) :: (417, false, 0, 2, 0, 0, 0) :: (418, false, 4, 0, 0, 0, 0) :: (419, false, 12, 0, 0, 0, 0) :: (420, false, 32, 11, 72, 3, 965) :: (423, false, 6, 0, 0, 1264, 0) :: (426, false, 0, 0, 0, 0, 0) :: (427, false, 25, 0, 0, 0, 0) :: p0_428 := rfl
set_option maxRecDepth 100000 in
theorem sq0_423 : seek pp0 423 = (423, false, 6, 0, 0, 1264, 0) :: (426, false, 0, 0, 0, 0, 0) :: (427, false, 25, 0, 0, 0, 0) :: p0_428 := rfl
set_option maxRecDepth 100000 in
theorem sq0_447 : seek pp0 447 = (447, false, 34, 0, 2, 0, 0) :: (448, false, 34, 0, 0, 0, 0) :: (449, false, 1, 0, 3, 0, 0) :: (450, false, 0, 1, 0, 0, 0) :: (451, false, 4, 0, 0, 0, 0) :: (452, false, 12, 0, 0, 0, 0) :: (453, false, 34, 0, 0, 0, 0) :: (454, false, 1, 0, 3, 0, 0) :: (455, false, 0, 2, 0, 0, 0) :: (456, false, 4, 0, 0, 0, 0) :: (457, false, 12, 0, 0, 0, 0) :: (458, false, 34, 0, 0, 0, 0) :: (459, false, 1, 0, 3, 0, 0) :: (460, false, 0, 3, 0, 0, 0) :: (461, false, 4, 0, 0, 0, 0) :: (462, false, 12, 0, 0, 0, 0) :: (463, false, 32, 11, 73, 4, 991) :: (466, false, 6, 0, 0, 1264, 0) :: (469, false, 0, 0, 0, 0, 0) :: (470, false, 25, 0, 0, 0, 0) :: p0_471 := rfl
set_option maxRecDepth 100000 in
theorem sq0_466 : seek pp0 466 = (466, false, 6, 0, 0, 1264, 0) :: (469, false, 0, 0, 0, 0, 0) :: (470, false, 25, 0, 0, 0, 0) :: p0_471 := rfl
set_option maxRecDepth 100000 in
theorem sq0_485 : seek pp0 485 = (485, false, 34, 0, 2, 0, 0) :: (486, false, 34, 0, 0, 0, 0) :: (487, false, 1, 0, 3, 0, 0) :: (488, false, 0, 1, 0, 0, 0) :: (489, false, 4, 0, 0, 0, 0) :: (490, false, 12, 0, 0, 0, 0) :: (491, false, 34, 0, 0, 0, 0) :: (492, false, 1, 0, 3, 0, 0) :: (493, false, 0, 2, 0, 0, 0) :: (494, false, 4, 0, 0, 0, 0) :: (495, false, 12, 0, 0, 0, 0) :: (496, false, 32, 11, 74, 3, 995) :: (499, false, 6, 0, 0, 1264, 0) :: (502, false, 0, 0, 0, 0, 0) :: (503, false, 25, 0, 0, 0, 0) :: p0_504 := rfl
set_option maxRecDepth 100000 in
theorem sq0_499 : seek pp0 499 = (499, false, 6, 0, 0, 1264, 0) :: (502, false, 0, 0, 0, 0, 0) :: (503, false, 25, 0, 0, 0, 0) :: p0_504 := rfl
set_option maxRecDepth 100000 in
theorem sq0_531 : seek pp0 531 = (531, false, 34, 0, 2, 0, 0) :: (532, false, 34, 0, 0, 0, 0) :: (533, false, 1, 0, 3, 0, 0) :: (534, false, 0, 1, 0, 0, 0) :: (535, false, 4, 0, 0, 0, 0) :: (536, false, 12, 0, 0, 0, 0) :: (537, false, 34, 0, 0, 0, 0) :: (538, false, 1, 0, 3, 0, 0) :: (539, false, 0, 2, 0, 0, 0) :: (540, false, 4, 0, 0, 0, 0) :: (541, false, 12, 0, 0, 0, 0) :: (542, false, 34, 0, 0, 0, 0) :: (543, false, 1, 0, 3, 0, 0) :: (544, false, 0, 3, 0, 0, 0) :: (545, false, 4, 0, 0, 0, 0) :: (546, false, 12, 0, 0, 0, 0) :: (547, false, 5, 0, 0, 554, 0) :: (550, false, 0, 1, 0, 0, 0) :: (551, false, 7, 0, 0, 555, 0) :: p0_554 := rfl
set_option maxRecDepth 100000 in
theorem sq0_558 : seek pp0 558 = (558, false, 6, 0, 0, 1264, 0) :: (561, false, 0, 0, 0, 0, 0) :: (562, false, 25, 0, 0, 0, 0) :: p0_563 := rfl
set_option maxRecDepth 100000 in
theorem sq0_577 : seek pp0 577 = (577, false, 34, 0, 2, 0, 0) :: (578, false, 34, 0, 0, 0, 0) :: (579, false, 1, 0, 3, 0, 0) :: (580, false, 0, 1, 0, 0, 0) :: (581, false, 4, 0, 0, 0, 0) :: (582, false, 12, 0, 0, 0, 0) :: (583, false, 34, 0, 0, 0, 0) :: (584, false, 1, 0, 3, 0, 0) :: (585, false, 0, 2, 0, 0, 0) :: (586, false, 4, 0, 0, 0, 0) :: (587, false, 12, 0, 0, 0, 0) :: (588, false, 32, 11, 81, 3, 1011) :: (591, false, 6, 0, 0, 1264, 0) :: (594, false, 0, 0, 0, 0, 0) :: (595, false, 25, 0, 0, 0, 0) :: p0_596 := rfl
set_option maxRecDepth 100000 in
theorem sq0_591 : seek pp0 591 = (591, false, 6, 0, 0, 1264, 0) :: (594, false, 0, 0, 0, 0, 0) :: (595, false, 25, 0, 0, 0, 0) :: p0_596 := rfl
set_option maxRecDepth 100000 in
theorem sq0_605 : seek pp0 605 = (605, false, 34, 0, 2, 0, 0) :: (606, false, 34, 0, 0, 0, 0) :: (607, false, 1, 0, 3, 0, 0) :: (608, false, 0, 1, 0, 0, 0) :: (609, false, 4, 0, 0, 0, 0) :: (610, false, 12, 0, 0, 0, 0) :: (611, false, 32, 11, 82, 2, 1023) :: (614, false, 6, 0, 0, 1264, 0) :: (617, false, 0, 0, 0, 0, 0) :: (618, false, 25, 0, 0, 0, 0) :: p0_619 := rfl
set_option maxRecDepth 100000 in
theorem sq0_614 : seek pp0 614 = (614, false, 6, 0, 0, 1264, 0) :: (617, false, 0, 0, 0, 0, 0) :: (618, false, 25, 0, 0, 0, 0) :: p0_619 := rfl
set_option maxRecDepth 100000 in
theorem sq0_623 : seek pp0 623 = (623, false, 34, 0, 2, 0, 0) :: (624, false, 32, 11, 84, 1, 1027) :: (627, false, 6, 0, 0, 1264, 0) :: (630, false, 0, 0, 0, 0, 0) :: (631, false, 25, 0, 0, 0, 0) :: p0_632 := rfl
set_option maxRecDepth 100000 in
theorem sq0_627 : seek pp0 627 = (627, false, 6, 0, 0, 1264, 0) :: (630, false, 0, 0, 0, 0, 0) :: (631, false, 25, 0, 0, 0, 0) :: p0_632 := rfl
set_option maxRecDepth 100000 in
theorem sq0_654 : seek pp0 654 = (654, false, 34, 0, 2, 0, 0) :: (655, false, 34, 0, 0, 0, 0) :: (656, false, 1, 0, 3, 0, 0) :: (657, false, 0, 1, 0, 0, 0) :: (658, false, 4, 0, 0, 0, 0) :: (659, false, 12, 0, 0, 0, 0) :: (660, false, 34, 0, 0, 0, 0) :: (661, false, 1, 0, 3, 0, 0) :: (662, false, 0, 2, 0, 0, 0) :: (663, false, 4, 0, 0, 0, 0) :: (664, false, 12, 0, 0, 0, 0) :: (665, false, 5, 0, 0, 672, 0) :: (668, false, 0, 1, 0, 0, 0) :: (669, false, 7, 0, 0, 673, 0) :: p0_672 := rfl
set_option maxRecDepth 100000 in
theorem sq0_676 : seek pp0 676 = (676, false, 6, 0, 0, 1264, 0) :: (679, false, 0, 0, 0, 0, 0) :: (680, false, 25, 0, 0, 0, 0) :: p0_681 := rfl
set_option maxRecDepth 100000 in
theorem sq0_700 : seek pp0 700 = (700, false, 34, 0, 2, 0, 0) :: (701, false, 34, 0, 0, 0, 0) :: (702, false, 1, 0, 3, 0, 0) :: (703, false, 0, 1, 0, 0, 0) :: (704, false, 4, 0, 0, 0, 0) :: (705, false, 12, 0, 0, 0, 0) :: (706, false, 34, 0, 0, 0, 0) :: (707, false, 1, 0, 3, 0, 0) :: (708, false, 0, 2, 0, 0, 0) :: (709, false, 4, 0, 0, 0, 0) :: (710, false, 12, 0, 0, 0, 0) :: (711, false, 34, 0, 0, 0, 0) :: (712, false, 1, 0, 3, 0, 0) :: (713, false, 0, 3, 0, 0, 0) :: (714, false, 4, 0, 0, 0, 0) :: (715, false, 12, 0, 0, 0, 0) :: (716, false, 32, 11, 86, 4, 1039) :: (719, false, 6, 0, 0, 1264, 0) :: (722, false, 0, 0, 0, 0, 0) :: (723, false, 25, 0, 0, 0, 0) :: p0_724 := rfl
set_option maxRecDepth 100000 in
theorem sq0_719 : seek pp0 719 = (719, false, 6, 0, 0, 1264, 0) :: (722, false, 0, 0, 0, 0, 0) :: (723, false, 25, 0, 0, 0, 0) :: p0_724 := rfl
set_option maxRecDepth 100000 in
theorem sq0_728 : seek pp0 728 = (728, false, 34, 0, 2, 0, 0) :: (729, false, 32, 11, 87, 1, 1043) :: (732, false, 6, 0, 0, 1264, 0) :: (735, false, 0, 0, 0, 0, 0) :: (736, false, 25, 0, 0, 0, 0) :: p0_737 := rfl
set_option maxRecDepth 100000 in
theorem sq0_732 : seek pp0 732 = (732, false, 6, 0, 0, 1264, 0) :: (735, false, 0, 0, 0, 0, 0) :: (736, false, 25, 0, 0, 0, 0) :: p0_737 := rfl
set_option maxRecDepth 100000 in
theorem sq0_751 : seek pp0 751 = (751, false, 34, 0, 2, 0, 0) :: (752, false, 34, 0, 0, 0, 0) :: (753, false, 1, 0, 3, 0, 0) :: (754, false, 0, 1, 0, 0, 0) :: (755, false, 4, 0, 0, 0, 0) :: (756, false, 12, 0, 0, 0, 0) :: (757, false, 34, 0, 0, 0, 0) :: (758, false, 1, 0, 3, 0, 0) :: (759, false, 0, 2, 0, 0, 0) :: (760, false, 4, 0, 0, 0, 0) :: (761, false, 12, 0, 0, 0, 0) :: (762, false, 32, 11, 88, 3, 1047) :: (765, false, 6, 0, 0, 1264, 0) :: (768, false, 0, 0, 0, 0, 0) :: (769, false, 25, 0, 0, 0, 0) :: p0_770 := rfl
set_option maxRecDepth 100000 in
theorem sq0_765 : seek pp0 765 = (765, false, 6, 0, 0, 1264, 0) :: (768, false, 0, 0, 0, 0, 0) :: (769, false, 25, 0, 0, 0, 0) :: p0_770 := rfl
set_option maxRecDepth 100000 in
theorem sq0_779 : seek pp0 779 = (779, false, 34, 0, 2, 0, 0) :: (780, false, 34, 0, 0, 0, 0) :: (781, false, 1, 0, 3, 0, 0) :: (782, false, 0, 1, 0, 0, 0) :: (783, false, 4, 0, 0, 0, 0) :: (784, false, 12, 0, 0, 0, 0) :: (785, false, 32, 11, 90, 2, 1055) :: (788, false, 6, 0, 0, 1264, 0) :: (791, false, 0, 0, 0, 0, 0) :: (792, false, 25, 0, 0, 0, 0) :: p0_793 := rfl
set_option maxRecDepth 100000 in
theorem sq0_788 : seek pp0 788 = (788, false, 6, 0, 0, 1264, 0) :: (791, false, 0, 0, 0, 0, 0) :: (792, false, 25, 0, 0, 0, 0) :: p0_793 := rfl
set_option maxRecDepth 100000 in
theorem sq0_802 : seek pp0 802 = (802, false, 34, 0, 2, 0, 0) :: (803, false, 34, 0, 0, 0, 0) :: (804, false, 1, 0, 3, 0, 0) :: (805, false, 0, 1, 0, 0, 0) :: (806, false, 4, 0, 0, 0, 0) :: (807, false, 12, 0, 0, 0, 0) :: (808, false, 32, 11, 91, 2, 1067) :: (811, false, 6, 0, 0, 1264, 0) :: (814, false, 0, 0, 0, 0, 0) :: (815, false, 25, 0, 0, 0, 0) :: p0_816 := rfl
set_option maxRecDepth 100000 in
theorem sq0_811 : seek pp0 811 = (811, false, 6, 0, 0, 1264, 0) :: (814, false, 0, 0, 0, 0, 0) :: (815, false, 25, 0, 0, 0, 0) :: p0_816 := rfl
set_option maxRecDepth 100000 in
theorem sq0_833 : seek pp0 833 = (833, false, 34, 0, 2, 0, 0) :: (834, false, 34, 0, 0, 0, 0) :: (835, false, 1, 0, 3, 0, 0) :: (836, false, 0, 1, 0, 0, 0) :: (837, false, 4, 0, 0, 0, 0) :: (838, false, 12, 0, 0, 0, 0) :: (839, false, 5, 0, 0, 846, 0) :: (842, false, 0, 1, 0, 0, 0) :: (843, false, 7, 0, 0, 847, 0) :: p0_846 := rfl
set_option maxRecDepth 100000 in
theorem sq0_850 : seek pp0 850 = (850, false, 6, 0, 0, 1264, 0) :: (853, false, 0, 0, 0, 0, 0) :: (854, false, 25, 0, 0, 0, 0) :: p0_855 := rfl
set_option maxRecDepth 100000 in
theorem sq0_859 : seek pp0 859 = (859, false, 34, 0, 2, 0, 0) :: (860, false, 32, 11, 95, 1, 1083) :: (863, false, 6, 0, 0, 1264, 0) :: (866, false, 0, 0, 0, 0, 0) :: (867, false, 25, 0, 0, 0, 0) :: p0_868 := rfl
set_option maxRecDepth 100000 in
theorem sq0_863 : seek pp0 863 = (863, false, 6, 0, 0, 1264, 0) :: (866, false, 0, 0, 0, 0, 0) :: (867, false, 25, 0, 0, 0, 0) :: p0_868 := rfl
set_option maxRecDepth 100000 in
theorem sq0_882 : seek pp0 882 = (882, false, 34, 0, 2, 0, 0) :: (883, false, 34, 0, 0, 0, 0) :: (884, false, 1, 0, 3, 0, 0) :: (885, false, 0, 1, 0, 0, 0) :: (886, false, 4, 0, 0, 0, 0) :: (887, false, 12, 0, 0, 0, 0) :: (888, false, 34, 0, 0, 0, 0) :: (889, false, 1, 0, 3, 0, 0) :: (890, false, 0, 2, 0, 0, 0) :: (891, false, 4, 0, 0, 0, 0) :: (892, false, 12, 0, 0, 0, 0) :: (893, false, 32, 11, 97, 3, 1087) :: (896, false, 6, 0, 0, 1264, 0) :: (899, false, 0, 0, 0, 0, 0) :: (900, false, 25, 0, 0, 0, 0) :: p0_901 := rfl
set_option maxRecDepth 100000 in
theorem sq0_896 : seek pp0 896 = (896, false, 6, 0, 0, 1264, 0) :: (899, false, 0, 0, 0, 0, 0) :: (900, false, 25, 0, 0, 0, 0) :: p0_901 := rfl
set_option maxRecDepth 100000 in
theorem sq0_910 : seek pp0 910 = (910, false, 34, 0, 2, 0, 0) :: (911, false, 34, 0, 0, 0, 0) :: (912, false, 1, 0, 3, 0, 0) :: (913, false, 0, 1, 0, 0, 0) :: (914, false, 4, 0, 0, 0, 0) :: (915, false, 12, 0, 0, 0, 0) :: (916, false, 32, 11, 98, 2, 1095) :: (919, false, 6, 0, 0, 1264, 0) :: (922, false, 0, 0, 0, 0, 0) :: (923, false, 25, 0, 0, 0, 0) :: p0_924 := rfl
set_option maxRecDepth 100000 in
theorem sq0_919 : seek pp0 919 = (919, false, 6, 0, 0, 1264, 0) :: (922, false, 0, 0, 0, 0, 0) :: (923, false, 25, 0, 0, 0, 0) :: p0_924 := rfl
set_option maxRecDepth 100000 in
theorem sq0_938 : seek pp0 938 = (938, false, 34, 0, 2, 0, 0) :: (939, false, 34, 0, 0, 0, 0) :: (940, false, 1, 0, 3, 0, 0) :: (941, false, 0, 1, 0, 0, 0) :: (942, false, 4, 0, 0, 0, 0) :: (943, false, 12, 0, 0, 0, 0) :: (944, false, 34, 0, 0, 0, 0) :: (945, false, 1, 0, 3, 0, 0) :: (946, false, 0, 2, 0, 0, 0) :: (947, false, 4, 0, 0, 0, 0) :: (948, false, 12, 0, 0, 0, 0) :: (949, false, 32, 11, 101, 3, 1099) :: (952, false, 6, 0, 0, 1264, 0) :: (955, false, 0, 0, 0, 0, 0) :: (956, false, 25, 0, 0, 0, 0) :: p0_957 := rfl
set_option maxRecDepth 100000 in
theorem sq0_952 : seek pp0 952 = (952, false, 6, 0, 0, 1264, 0) :: (955, false, 0, 0, 0, 0, 0) :: (956, false, 25, 0, 0, 0, 0) :: p0_957 := rfl
set_option maxRecDepth 100000 in
theorem sq0_971 : seek pp0 971 = (971, false, 34, 0, 2, 0, 0) :: (972, false, 34, 0, 0, 0, 0) :: (973, false, 1, 0, 3, 0, 0) :: (974, false, 0, 1, 0, 0, 0) :: (975, false, 4, 0, 0, 0, 0) :: (976, false, 12, 0, 0, 0, 0) :: (977, false, 34, 0, 0, 0, 0) :: (978, false, 1, 0, 3, 0, 0) :: (979, false, 0, 2, 0, 0, 0) :: (980, false, 4, 0, 0, 0, 0) :: (981, false, 12, 0, 0, 0, 0) :: (982, false, 32, 11, 103, 3, 1111) :: (985, false, 6, 0, 0, 1264, 0) :: (988, false, 0, 0, 0, 0, 0) :: (989, false, 25, 0, 0, 0, 0) :: p0_990 := rfl
set_option maxRecDepth 100000 in
theorem sq0_985 : seek pp0 985 = (985, false, 6, 0, 0, 1264, 0) :: (988, false, 0, 0, 0, 0, 0) :: (989, false, 25, 0, 0, 0, 0) :: p0_990 := rfl
set_option maxRecDepth 100000 in
theorem sq0_999 : seek pp0 999 = (999, false, 34, 0, 2, 0, 0) :: (1000, false, 34, 0, 0, 0, 0) :: (1001, false, 1, 0, 3, 0, 0) :: (1002, false, 0, 1, 0, 0, 0) :: (1003, false, 4, 0, 0, 0, 0) :: (1004, false, 12, 0, 0, 0, 0) :: (1005, false, 32, 11, 104, 2, 1119) :: (1008, false, 6, 0, 0, 1264, 0) :: (1011, false, 0, 0, 0, 0, 0) :: (1012, false, 25, 0, 0, 0, 0) :: p0_1013 := rfl
set_option maxRecDepth 100000 in
theorem sq0_1008 : seek pp0 1008 = (1008, false, 6, 0, 0, 1264, 0) :: (1011, false, 0, 0, 0, 0, 0) :: (1012, false, 25, 0, 0, 0, 0) :: p0_1013 := rfl
set_option maxRecDepth 100000 in
theorem sq0_1027 : seek pp0 1027 = (1027, false, 34, 0, 2, 0, 0) :: (1028, false, 34, 0, 0, 0, 0) :: (1029, false, 1, 0, 3, 0, 0) :: (1030, false, 0, 1, 0, 0, 0) :: (1031, false, 4, 0, 0, 0, 0) :: (1032, false, 12, 0, 0, 0, 0) :: (1033, false, 34, 0, 0, 0, 0) :: (1034, false, 1, 0, 3, 0, 0) :: (1035, false, 0, 2, 0, 0, 0) :: (1036, false, 4, 0, 0, 0, 0) :: (1037, false, 12, 0, 0, 0, 0) :: (1038, false, 32, 11, 105, 3, 1123) :: (1041, false, 6, 0, 0, 1264, 0) :: (1044, false, 0, 0, 0, 0, 0) :: (1045, false, 25, 0, 0, 0, 0) :: p0_1046 := rfl
set_option maxRecDepth 100000 in
theorem sq0_1041 : seek pp0 1041 = (1041, false, 6, 0, 0, 1264, 0) :: (1044, false, 0, 0, 0, 0, 0) :: (1045, false, 25, 0, 0, 0, 0) :: p0_1046 := rfl
set_option maxRecDepth 100000 in
theorem sq0_1065 : seek pp0 1065 = (1065, false, 34, 0, 2, 0, 0) :: (1066, false, 34, 0, 0, 0, 0) :: (1067, false, 1, 0, 3, 0, 0) :: (1068, false, 0, 1, 0, 0, 0) :: (1069, false, 4, 0, 0, 0, 0) :: (1070, false, 12, 0, 0, 0, 0) :: (1071, false, 34, 0, 0, 0, 0) :: (1072, false, 1, 0, 3, 0, 0) :: (1073, false, 0, 2, 0, 0, 0) :: (1074, false, 4, 0, 0, 0, 0) :: (1075, false, 12, 0, 0, 0, 0) :: (1076, false, 34, 0, 0, 0, 0) :: (1077, false, 1, 0, 3, 0, 0) :: (1078, false, 0, 3, 0, 0, 0) :: (1079, false, 4, 0, 0, 0, 0) :: (1080, false, 12, 0, 0, 0, 0) :: (1081, false, 32, 11, 108, 4, 1131) :: (1084, false, 6, 0, 0, 1264, 0) :: (1087, false, 0, 0, 0, 0, 0) :: (1088, false, 25, 0, 0, 0, 0) :: p0_1089 := rfl
set_option maxRecDepth 100000 in
theorem sq0_1084 : seek pp0 1084 = (1084, false, 6, 0, 0, 1264, 0) :: (1087, false, 0, 0, 0, 0, 0) :: (1088, false, 25, 0, 0, 0, 0) :: p0_1089 := rfl
set_option maxRecDepth 100000 in
theorem sq0_1108 : seek pp0 1108 = (1108, false, 34, 0, 2, 0, 0) :: (1109, false, 34, 0, 0, 0, 0) :: (1110, false, 1, 0, 3, 0, 0) :: (1111, false, 0, 1, 0, 0, 0) :: (1112, false, 4, 0, 0, 0, 0) :: (1113, false, 12, 0, 0, 0, 0) :: (1114, false, 34, 0, 0, 0, 0) :: (1115, false, 1, 0, 3, 0, 0) :: (1116, false, 0, 2, 0, 0, 0) :: (1117, false, 4, 0, 0, 0, 0) :: (1118, false, 12, 0, 0, 0, 0) :: (1119, false, 34, 0, 0, 0, 0) :: (1120, false, 1, 0, 3, 0, 0) :: (1121, false, 0, 3, 0, 0, 0) :: (1122, false, 4, 0, 0, 0, 0) :: (1123, false, 12, 0, 0, 0, 0) :: (1124, false, 32, 11, 109, 4, 1139) :: (1127, false, 6, 0, 0, 1264, 0) :: (1130, false, 0, 0, 0, 0, 0) :: (1131, false, 25, 0, 0, 0, 0) :: p0_1132 := rfl
set_option maxRecDepth 100000 in
theorem sq0_1127 : seek pp0 1127 = (1127, false, 6, 0, 0, 1264, 0) :: (1130, false, 0, 0, 0, 0, 0) :: (1131, false, 25, 0, 0, 0, 0) :: p0_1132 := rfl
set_option maxRecDepth 100000 in
theorem sq0_1161 : seek pp0 1161 = (1161, false, 34, 0, 2, 0, 0) :: (1162, false, 34, 0, 0, 0, 0) :: (1163, false, 1, 0, 3, 0, 0) :: (1164, false, 0, 1, 0, 0, 0) :: (1165, false, 4, 0, 0, 0, 0) :: (1166, false, 12, 0, 0, 0, 0) :: (1167, false, 34, 0, 0, 0, 0) :: (1168, false, 1, 0, 3, 0, 0) :: (1169, false, 0, 2, 0, 0, 0) :: (1170, false, 4, 0, 0, 0, 0) :: (1171, false, 12, 0, 0, 0, 0) :: (1172, false, 34, 0, 0, 0, 0) :: (1173, false, 1, 0, 3, 0, 0) :: (1174, false, 0, 3, 0, 0, 0) :: (1175, false, 4, 0, 0, 0, 0) :: (1176, false, 12, 0, 0, 0, 0) :: (1177, false, 34, 0, 0, 0, 0) :: (1178, false, 1, 0, 3, 0, 0) :: (1179, false, 0, 4, 0, 0, 0) :: (1180, false, 4, 0, 0, 0, 0) :: (1181, false, 12, 0, 0, 0, 0) :: (1182, false, 34, 0, 0, 0, 0) :: (1183, false, 1, 0, 3, 0, 0) :: (1184, false, 0, 5, 0, 0, 0) :: (1185, false, 4, 0, 0, 0, 0) :: (1186, false, 12, 0, 0, 0, 0) :: (1187, false, 32, 11, 111, 6, 1144) :: (1190, false, 6, 0, 0, 1264, 0) :: (1193, false, 0, 0, 0, 0, 0) :: (1194, false, 25, 0, 0, 0, 0) :: p0_1195 := rfl
set_option maxRecDepth 100000 in
theorem sq0_1190 : seek pp0 1190 = (1190, false, 6, 0, 0, 1264, 0) :: (1193, false, 0, 0, 0, 0, 0) :: (1194, false, 25, 0, 0, 0, 0) :: p0_1195 := rfl
set_option maxRecDepth 100000 in
theorem sq0_1209 : seek pp0 1209 = (1209, false, 34, 0, 2, 0, 0) :: (1210, false, 34, 0, 0, 0, 0) :: (1211, false, 1, 0, 3, 0, 0) :: (1212, false, 0, 1, 0, 0, 0) :: (1213, false, 4, 0, 0, 0, 0) :: (1214, false, 12, 0, 0, 0, 0) :: (1215, false, 34, 0, 0, 0, 0) :: (1216, false, 1, 0, 3, 0, 0) :: (1217, false, 0, 2, 0, 0, 0) :: (1218, false, 4, 0, 0, 0, 0) :: (1219, false, 12, 0, 0, 0, 0) :: (1220, false, 32, 11, 112, 3, 1152) :: (1223, false, 6, 0, 0, 1264, 0) :: (1226, false, 0, 0, 0, 0, 0) :: (1227, false, 25, 0, 0, 0, 0) :: p0_1228 := rfl
set_option maxRecDepth 100000 in
theorem sq0_1223 : seek pp0 1223 = (1223, false, 6, 0, 0, 1264, 0) :: (1226, false, 0, 0, 0, 0, 0) :: (1227, false, 25, 0, 0, 0, 0) :: p0_1228 := rfl
set_option maxRecDepth 100000 in
theorem sq0_1232 : seek pp0 1232 = (1232, false, 34, 0, 2, 0, 0) :: (1233, false, 32, 11, 55, 1, 890) :: (1236, false, 6, 0, 0, 1264, 0) :: (1239, false, 0, 0, 0, 0, 0) :: (1240, false, 25, 0, 0, 0, 0) :: p0_1241 := rfl
set_option maxRecDepth 100000 in
theorem sq0_1236 : seek pp0 1236 = (1236, false, 6, 0, 0, 1264, 0) :: (1239, false, 0, 0, 0, 0, 0) :: (1240, false, 25, 0, 0, 0, 0) :: p0_1241 := rfl
set_option maxRecDepth 100000 in
theorem sq0_1250 : seek pp0 1250 = (1250, false, 34, 0, 2, 0, 0) :: (1251, false, 34, 0, 0, 0, 0) :: (1252, false, 1, 0, 3, 0, 0) :: (1253, false, 0, 1, 0, 0, 0) :: (1254, false, 4, 0, 0, 0, 0) :: (1255, false, 12, 0, 0, 0, 0) :: (1256, false, 32, 11, 113, 2, 1156) :: (1259, false, 6, 0, 0, 1264, 0) :: (1262, false, 0, 0, 0, 0, 0) :: (1263, false, 25, 0, 0, 0, 0) :: p0_1264 := rfl
set_option maxRecDepth 100000 in
theorem sq0_1259 : seek pp0 1259 = (1259, false, 6, 0, 0, 1264, 0) :: (1262, false, 0, 0, 0, 0, 0) :: (1263, false, 25, 0, 0, 0, 0) :: p0_1264 := rfl
def pp1 : List EN := p1_0
theorem sq1_0 : seek pp1 0 = p1_0 := sk1_0
set_option maxRecDepth 100000 in
theorem sq1_12 : seek pp1 12 = (12, false, 10, 0, 10, 0, 333) :: (15, false, 34, 0, 0, 0, 0) :: (16, false, 21, 0, 1, 0, 63) :: (19, false, 22, 0, 0, 0, 0) :: (20, false, 32, 1, 119, 1, 65) :: (23, false, 10, 0, 10, 1, 334) :: (26, false, 34, 0, 0, 0, 0) :: (27, false, 21, 0, 2, 0, 119) :: (30, false, 22, 0, 0, 0, 0) :: (31, false, 32, 2, 139, 1, 121) :: (34, false, 10, 0, 10, 2, 335) :: (37, false, 34, 0, 0, 0, 0) :: (38, false, 21, 0, 3, 0, 139) :: (41, false, 22, 0, 0, 0, 0) :: (42, false, 32, 3, 142, 1, 141) :: (45, false, 10, 0, 10, 3, 336) :: (48, false, 34, 0, 0, 0, 0) :: (49, false, 21, 0, 6, 0, 161) :: (52, false, 22, 0, 0, 0, 0) :: (53, false, 32, 6, 155, 1, 163) :: (56, false, 10, 0, 10, 4, 337) :: (59, false, 34, 0, 0, 0, 0) :: (60, false, 21, 0, 4, 0, 193) :: (63, false, 22, 0, 0, 0, 0) :: (64, false, 32, 4, 145, 1, 195) :: (67, false, 10, 0, 10, 5, 338) :: (70, false, 34, 0, 0, 0, 0) :: (71, false, 21, 0, 0, 0, 220) :: (74, false, 22, 0, 0, 0, 0) :: (75, false, 32, 0, 114, 1, 222) :: (78, false, 10, 0, 10, 6, 339) :: (81, false, 34, 0, 0, 0, 0) :: (82, false, 21, 0, 7, 0, 244) :: (85, false, 22, 0, 0, 0, 0) :: (86, false, 32, 7, 164, 1, 246) :: (89, false, 10, 0, 10, 7, 340) :: (92, false, 34, 0, 0, 0, 0) :: (93, false, 21, 0, 9, 0, 276) :: (96, false, 22, 0, 0, 0, 0) :: (97, false, 32, 9, 173, 1, 278) :: (100, false, 10, 0, 10, 8, 341) :: (103, false, 34, 0, 0, 0, 0) :: (104, false, 21, 0, 8, 0, 295) :: (107, false, 22, 0, 0, 0, 0) :: (108, false, 32, 8, 170, 1, 297) :: (111, false, 10, 0, 10, 9, 342) :: (114, false, 34, 0, 0, 0, 0) :: (115, false, 21, 0, 5, 0, 315) :: (118, false, 22, 0, 0, 0, 0) :: (119, false, 32, 5, 148, 1, 317) :: (122, false, 10, 0, 10, 10, 343) :: (125, false, 34, 0, 0, 0, 0) :: (126, false, 0, 0, 0, 0, 0) :: (127, false, 9, 0, 10, 11, 344) :: (130, false, 26, 0, 0, 0, 0) :: [] := rfl
set_option maxRecDepth 100000 in
theorem sq1_23 : seek pp1 23 = (23, false, 10, 0, 10, 1, 334) :: (26, false, 34, 0, 0, 0, 0) :: (27, false, 21, 0, 2, 0, 119) :: (30, false, 22, 0, 0, 0, 0) :: (31, false, 32, 2, 139, 1, 121) :: (34, false, 10, 0, 10, 2, 335) :: (37, false, 34, 0, 0, 0, 0) :: (38, false, 21, 0, 3, 0, 139) :: (41, false, 22, 0, 0, 0, 0) :: (42, false, 32, 3, 142, 1, 141) :: (45, false, 10, 0, 10, 3, 336) :: (48, false, 34, 0, 0, 0, 0) :: (49, false, 21, 0, 6, 0, 161) :: (52, false, 22, 0, 0, 0, 0) :: (53, false, 32, 6, 155, 1, 163) :: (56, false, 10, 0, 10, 4, 337) :: (59, false, 34, 0, 0, 0, 0) :: (60, false, 21, 0, 4, 0, 193) :: (63, false, 22, 0, 0, 0, 0) :: (64, false, 32, 4, 145, 1, 195) :: (67, false, 10, 0, 10, 5, 338) :: (70, false, 34, 0, 0, 0, 0) :: (71, false, 21, 0, 0, 0, 220) :: (74, false, 22, 0, 0, 0, 0) :: (75, false, 32, 0, 114, 1, 222) :: (78, false, 10, 0, 10, 6, 339) :: (81, false, 34, 0, 0, 0, 0) :: (82, false, 21, 0, 7, 0, 244) :: (85, false, 22, 0, 0, 0, 0) :: (86, false, 32, 7, 164, 1, 246) :: (89, false, 10, 0, 10, 7, 340) :: (92, false, 34, 0, 0, 0, 0) :: (93, false, 21, 0, 9, 0, 276) :: (96, false, 22, 0, 0, 0, 0) :: (97, false, 32, 9, 173, 1, 278) :: (100, false, 10, 0, 10, 8, 341) :: (103, false, 34, 0, 0, 0, 0) :: (104, false, 21, 0, 8, 0, 295) :: (107, false, 22, 0, 0, 0, 0) :: (108, false, 32, 8, 170, 1, 297) :: (111, false, 10, 0, 10, 9, 342) :: (114, false, 34, 0, 0, 0, 0) :: (115, false, 21, 0, 5, 0, 315) :: (118, false, 22, 0, 0, 0, 0) :: (119, false, 32, 5, 148, 1, 317) :: (122, false, 10, 0, 10, 10, 343) :: (125, false, 34, 0, 0, 0, 0) :: (126, false, 0, 0, 0, 0, 0) :: (127, false, 9, 0, 10, 11, 344) :: (130, false, 26, 0, 0, 0, 0) :: [] := rfl
set_option maxRecDepth 100000 in
theorem sq1_34 : seek pp1 34 = (34, false, 10, 0, 10, 2, 335) :: (37, false, 34, 0, 0, 0, 0) :: (38, false, 21, 0, 3, 0, 139) :: (41, false, 22, 0, 0, 0, 0) :: (42, false, 32, 3, 142, 1, 141) :: (45, false, 10, 0, 10, 3, 336) :: (48, false, 34, 0, 0, 0, 0) :: (49, false, 21, 0, 6, 0, 161) :: (52, false, 22, 0, 0, 0, 0) :: (53, false, 32, 6, 155, 1, 163) :: (56, false, 10, 0, 10, 4, 337) :: (59, false, 34, 0, 0, 0, 0) :: (60, false, 21, 0, 4, 0, 193) :: (63, false, 22, 0, 0, 0, 0) :: (64, false, 32, 4, 145, 1, 195) :: (67, false, 10, 0, 10, 5, 338) :: (70, false, 34, 0, 0, 0, 0) :: (71, false, 21, 0, 0, 0, 220) :: (74, false, 22, 0, 0, 0, 0) :: (75, false, 32, 0, 114, 1, 222) :: (78, false, 10, 0, 10, 6, 339) :: (81, false, 34, 0, 0, 0, 0) :: (82, false, 21, 0, 7, 0, 244) :: (85, false, 22, 0, 0, 0, 0) :: (86, false, 32, 7, 164, 1, 246) :: (89, false, 10, 0, 10, 7, 340) :: (92, false, 34, 0, 0, 0, 0) :: (93, false, 21, 0, 9, 0, 276) :: (96, false, 22, 0, 0, 0, 0) :: (97, false, 32, 9, 173, 1, 278) :: (100, false, 10, 0, 10, 8, 341) :: (103, false, 34, 0, 0, 0, 0) :: (104, false, 21, 0, 8, 0, 295) :: (107, false, 22, 0, 0, 0, 0) :: (108, false, 32, 8, 170, 1, 297) :: (111, false, 10, 0, 10, 9, 342) :: (114, false, 34, 0, 0, 0, 0) :: (115, false, 21, 0, 5, 0, 315) :: (118, false, 22, 0, 0, 0, 0) :: (119, false, 32, 5, 148, 1, 317) :: (122, false, 10, 0, 10, 10, 343) :: (125, false, 34, 0, 0, 0, 0) :: (126, false, 0, 0, 0, 0, 0) :: (127, false, 9, 0, 10, 11, 344) :: (130, false, 26, 0, 0, 0, 0) :: [] := rfl
set_option maxRecDepth 100000 in
theorem sq1_45 : seek pp1 45 = (45, false, 10, 0, 10, 3, 336) :: (48, false, 34, 0, 0, 0, 0) :: (49, false, 21, 0, 6, 0, 161) :: (52, false, 22, 0, 0, 0, 0) :: (53, false, 32, 6, 155, 1, 163) :: (56, false, 10, 0, 10, 4, 337) :: (59, false, 34, 0, 0, 0, 0) :: (60, false, 21, 0, 4, 0, 193) :: (63, false, 22, 0, 0, 0, 0) :: (64, false, 32, 4, 145, 1, 195) :: (67, false, 10, 0, 10, 5, 338) :: (70, false, 34, 0, 0, 0, 0) :: (71, false, 21, 0, 0, 0, 220) :: (74, false, 22, 0, 0, 0, 0) :: (75, false, 32, 0, 114, 1, 222) :: (78, false, 10, 0, 10, 6, 339) :: (81, false, 34, 0, 0, 0, 0) :: (82, false, 21, 0, 7, 0, 244) :: (85, false, 22, 0, 0, 0, 0) :: (86, false, 32, 7, 164, 1, 246) :: (89, false, 10, 0, 10, 7, 340) :: (92, false, 34, 0, 0, 0, 0) :: (93, false, 21, 0, 9, 0, 276) :: (96, false, 22, 0, 0, 0, 0) :: (97, false, 32, 9, 173, 1, 278) :: (100, false, 10, 0, 10, 8, 341) :: (103, false, 34, 0, 0, 0, 0) :: (104, false, 21, 0, 8, 0, 295) :: (107, false, 22, 0, 0, 0, 0) :: (108, false, 32, 8, 170, 1, 297) :: (111, false, 10, 0, 10, 9, 342) :: (114, false, 34, 0, 0, 0, 0) :: (115, false, 21, 0, 5, 0, 315) :: (118, false, 22, 0, 0, 0, 0) :: (119, false, 32, 5, 148, 1, 317) :: (122, false, 10, 0, 10, 10, 343) :: (125, false, 34, 0, 0, 0, 0) :: (126, false, 0, 0, 0, 0, 0) :: (127, false, 9, 0, 10, 11, 344) :: (130, false, 26, 0, 0, 0, 0) :: [] := rfl
set_option maxRecDepth 100000 in
theorem sq1_56 : seek pp1 56 = (56, false, 10, 0, 10, 4, 337) :: (59, false, 34, 0, 0, 0, 0) :: (60, false, 21, 0, 4, 0, 193) :: (63, false, 22, 0, 0, 0, 0) :: (64, false, 32, 4, 145, 1, 195) :: (67, false, 10, 0, 10, 5, 338) :: (70, false, 34, 0, 0, 0, 0) :: (71, false, 21, 0, 0, 0, 220) :: (74, false, 22, 0, 0, 0, 0) :: (75, false, 32, 0, 114, 1, 222) :: (78, false, 10, 0, 10, 6, 339) :: (81, false, 34, 0, 0, 0, 0) :: (82, false, 21, 0, 7, 0, 244) :: (85, false, 22, 0, 0, 0, 0) :: (86, false, 32, 7, 164, 1, 246) :: (89, false, 10, 0, 10, 7, 340) :: (92, false, 34, 0, 0, 0, 0) :: (93, false, 21, 0, 9, 0, 276) :: (96, false, 22, 0, 0, 0, 0) :: (97, false, 32, 9, 173, 1, 278) :: (100, false, 10, 0, 10, 8, 341) :: (103, false, 34, 0, 0, 0, 0) :: (104, false, 21, 0, 8, 0, 295) :: (107, false, 22, 0, 0, 0, 0) :: (108, false, 32, 8, 170, 1, 297) :: (111, false, 10, 0, 10, 9, 342) :: (114, false, 34, 0, 0, 0, 0) :: (115, false, 21, 0, 5, 0, 315) :: (118, false, 22, 0, 0, 0, 0) :: (119, false, 32, 5, 148, 1, 317) :: (122, false, 10, 0, 10, 10, 343) :: (125, false, 34, 0, 0, 0, 0) :: (126, false, 0, 0, 0, 0, 0) :: (127, false, 9, 0, 10, 11, 344) :: (130, false, 26, 0, 0, 0, 0) :: [] := rfl
set_option maxRecDepth 100000 in
theorem sq1_67 : seek pp1 67 = (67, false, 10, 0, 10, 5, 338) :: (70, false, 34, 0, 0, 0, 0) :: (71, false, 21, 0, 0, 0, 220) :: (74, false, 22, 0, 0, 0, 0) :: (75, false, 32, 0, 114, 1, 222) :: (78, false, 10, 0, 10, 6, 339) :: (81, false, 34, 0, 0, 0, 0) :: (82, false, 21, 0, 7, 0, 244) :: (85, false, 22, 0, 0, 0, 0) :: (86, false, 32, 7, 164, 1, 246) :: (89, false, 10, 0, 10, 7, 340) :: (92, false, 34, 0, 0, 0, 0) :: (93, false, 21, 0, 9, 0, 276) :: (96, false, 22, 0, 0, 0, 0) :: (97, false, 32, 9, 173, 1, 278) :: (100, false, 10, 0, 10, 8, 341) :: (103, false, 34, 0, 0, 0, 0) :: (104, false, 21, 0, 8, 0, 295) :: (107, false, 22, 0, 0, 0, 0) :: (108, false, 32, 8, 170, 1, 297) :: (111, false, 10, 0, 10, 9, 342) :: (114, false, 34, 0, 0, 0, 0) :: (115, false, 21, 0, 5, 0, 315) :: (118, false, 22, 0, 0, 0, 0) :: (119, false, 32, 5, 148, 1, 317) :: (122, false, 10, 0, 10, 10, 343) :: (125, false, 34, 0, 0, 0, 0) :: (126, false, 0, 0, 0, 0, 0) :: (127, false, 9, 0, 10, 11, 344) :: (130, false, 26, 0, 0, 0, 0) :: [] := rfl
set_option maxRecDepth 100000 in
theorem sq1_78 : seek pp1 78 = (78, false, 10, 0, 10, 6, 339) :: (81, false, 34, 0, 0, 0, 0) :: (82, false, 21, 0, 7, 0, 244) :: (85, false, 22, 0, 0, 0, 0) :: (86, false, 32, 7, 164, 1, 246) :: (89, false, 10, 0, 10, 7, 340) :: (92, false, 34, 0, 0, 0, 0) :: (93, false, 21, 0, 9, 0, 276) :: (96, false, 22, 0, 0, 0, 0) :: (97, false, 32, 9, 173, 1, 278) :: (100, false, 10, 0, 10, 8, 341) :: (103, false, 34, 0, 0, 0, 0) :: (104, false, 21, 0, 8, 0, 295) :: (107, false, 22, 0, 0, 0, 0) :: (108, false, 32, 8, 170, 1, 297) :: (111, false, 10, 0, 10, 9, 342) :: (114, false, 34, 0, 0, 0, 0) :: (115, false, 21, 0, 5, 0, 315) :: (118, false, 22, 0, 0, 0, 0) :: (119, false, 32, 5, 148, 1, 317) :: (122, false, 10, 0, 10, 10, 343) :: (125, false, 34, 0, 0, 0, 0) :: (126, false, 0, 0, 0, 0, 0) :: (127, false, 9, 0, 10, 11, 344) :: (130, false, 26, 0, 0, 0, 0) :: [] := rfl
set_option maxRecDepth 100000 in
theorem sq1_89 : seek pp1 89 = (89, false, 10, 0, 10, 7, 340) :: (92, false, 34, 0, 0, 0, 0) :: (93, false, 21, 0, 9, 0, 276) :: (96, false, 22, 0, 0, 0, 0) :: (97, false, 32, 9, 173, 1, 278) :: (100, false, 10, 0, 10, 8, 341) :: (103, false, 34, 0, 0, 0, 0) :: (104, false, 21, 0, 8, 0, 295) :: (107, false, 22, 0, 0, 0, 0) :: (108, false, 32, 8, 170, 1, 297) :: (111, false, 10, 0, 10, 9, 342) :: (114, false, 34, 0, 0, 0, 0) :: (115, false, 21, 0, 5, 0, 315) :: (118, false, 22, 0, 0, 0, 0) :: (119, false, 32, 5, 148, 1, 317) :: (122, false, 10, 0, 10, 10, 343) :: (125, false, 34, 0, 0, 0, 0) :: (126, false, 0, 0, 0, 0, 0) :: (127, false, 9, 0, 10, 11, 344) :: (130, false, 26, 0, 0, 0, 0) :: [] := rfl
set_option maxRecDepth 100000 in
theorem sq1_100 : seek pp1 100 = (100, false, 10, 0, 10, 8, 341) :: (103, false, 34, 0, 0, 0, 0) :: (104, false, 21, 0, 8, 0, 295) :: (107, false, 22, 0, 0, 0, 0) :: (108, false, 32, 8, 170, 1, 297) :: (111, false, 10, 0, 10, 9, 342) :: (114, false, 34, 0, 0, 0, 0) :: (115, false, 21, 0, 5, 0, 315) :: (118, false, 22, 0, 0, 0, 0) :: (119, false, 32, 5, 148, 1, 317) :: (122, false, 10, 0, 10, 10, 343) :: (125, false, 34, 0, 0, 0, 0) :: (126, false, 0, 0, 0, 0, 0) :: (127, false, 9, 0, 10, 11, 344) :: (130, false, 26, 0, 0, 0, 0) :: [] := rfl
set_option maxRecDepth 100000 in
theorem sq1_111 : seek pp1 111 = (111, false, 10, 0, 10, 9, 342) :: (114, false, 34, 0, 0, 0, 0) :: (115, false, 21, 0, 5, 0, 315) :: (118, false, 22, 0, 0, 0, 0) :: (119, false, 32, 5, 148, 1, 317) :: (122, false, 10, 0, 10, 10, 343) :: (125, false, 34, 0, 0, 0, 0) :: (126, false, 0, 0, 0, 0, 0) :: (127, false, 9, 0, 10, 11, 344) :: (130, false, 26, 0, 0, 0, 0) :: [] := rfl
set_option maxRecDepth 100000 in
theorem sq1_122 : seek pp1 122 = (122, false, 10, 0, 10, 10, 343) :: (125, false, 34, 0, 0, 0, 0) :: (126, false, 0, 0, 0, 0, 0) :: (127, false, 9, 0, 10, 11, 344) :: (130, false, 26, 0, 0, 0, 0) :: [] := rfl
def pp2 : List EN := p2_0
theorem sq2_0 : seek pp2 0 = p2_0 := sk2_0
theorem sq2_14 : seek pp2 14 = p2_14 := sk2_14
theorem sq2_21 : seek pp2 21 = p2_21 := sk2_21
set_option maxRecDepth 100000 in
theorem sq2_4 : seek pp2 4 = (4, false, 5, 0, 0, 14, 0) :: (7, false, 1, 0, 2, 0, 0) :: (8, false, 24, 0, 37, 1, 374) :: (11, false, 5, 0, 1, 21, 0) :: p2_14 := rfl
set_option maxRecDepth 100000 in
theorem sq2_11 : seek pp2 11 = (11, false, 5, 0, 1, 21, 0) :: p2_14 := rfl
set_option maxRecDepth 100000 in
theorem sq2_20 : seek pp2 20 = (20, false, 25, 0, 0, 0, 0) :: p2_21 := rfl
set_option maxRecDepth 100000 in
theorem sq2_32 : seek pp2 32 = (32, false, 34, 0, 0, 0, 0) :: (33, false, 8, 0, 10, 0, 333) :: (36, false, 1, 0, 1, 0, 0) :: (37, false, 1, 0, 2, 0, 0) :: (38, false, 32, 1, 135, 3, 393) :: (41, false, 34, 0, 0, 0, 0) :: (42, false, 8, 0, 10, 0, 333) :: (45, false, 32, 1, 129, 1, 409) :: (48, false, 34, 0, 0, 0, 0) :: (49, false, 8, 0, 10, 0, 333) :: (52, false, 8, 0, 1, 5, 89) :: (55, false, 4, 0, 0, 0, 0) :: (56, false, 25, 0, 0, 0, 0) :: [] := rfl
set_option maxRecDepth 100000 in
theorem sq2_41 : seek pp2 41 = (41, false, 34, 0, 0, 0, 0) :: (42, false, 8, 0, 10, 0, 333) :: (45, false, 32, 1, 129, 1, 409) :: (48, false, 34, 0, 0, 0, 0) :: (49, false, 8, 0, 10, 0, 333) :: (52, false, 8, 0, 1, 5, 89) :: (55, false, 4, 0, 0, 0, 0) :: (56, false, 25, 0, 0, 0, 0) :: [] := rfl
set_option maxRecDepth 100000 in
theorem sq2_48 : seek pp2 48 = (48, false, 34, 0, 0, 0, 0) :: (49, false, 8, 0, 10, 0, 333) :: (52, false, 8, 0, 1, 5, 89) :: (55, false, 4, 0, 0, 0, 0) :: (56, false, 25, 0, 0, 0, 0) :: [] := rfl
def pp3 : List EN := p3_0
theorem sq3_0 : seek pp3 0 = p3_0 := sk3_0
theorem sq3_26 : seek pp3 26 = p3_26 := sk3_26
theorem sq3_33 : seek pp3 33 = p3_33 := sk3_33
theorem sq3_51 : seek pp3 51 = p3_51 := sk3_51
theorem sq3_76 : seek pp3 76 = p3_76 := sk3_76
set_option maxRecDepth 100000 in
theorem sq3_8 : seek pp3 8 = (8, false, 5, 0, 0, 26, 0) :: (11, false, 1, 0, 2, 0, 0) :: (12, false, 24, 0, 40, 1, 422) :: (15, false, 5, 0, 0, 26, 0) :: (18, false, 1, 0, 2, 0, 0) :: (19, false, 1, 0, 3, 0, 0) :: (20, false, 24, 0, 43, 2, 425) :: (23, false, 5, 0, 1, 33, 0) :: p3_26 := rfl
set_option maxRecDepth 100000 in
theorem sq3_15 : seek pp3 15 = (15, false, 5, 0, 0, 26, 0) :: (18, false, 1, 0, 2, 0, 0) :: (19, false, 1, 0, 3, 0, 0) :: (20, false, 24, 0, 43, 2, 425) :: (23, false, 5, 0, 1, 33, 0) :: p3_26 := rfl
set_option maxRecDepth 100000 in
theorem sq3_23 : seek pp3 23 = (23, false, 5, 0, 1, 33, 0) :: p3_26 := rfl
set_option maxRecDepth 100000 in
theorem sq3_32 : seek pp3 32 = (32, false, 25, 0, 0, 0, 0) :: p3_33 := rfl
set_option maxRecDepth 100000 in
theorem sq3_41 : seek pp3 41 = (41, false, 5, 0, 1, 51, 0) :: (44, false, 34, 0, 0, 0, 0) :: (45, false, 0, (-100007), 0, 0, 442) :: (47, false, 32, 10, 36, 2, 378) :: (50, false, 25, 0, 0, 0, 0) :: p3_51 := rfl
set_option maxRecDepth 100000 in
theorem sq3_50 : seek pp3 50 = (50, false, 25, 0, 0, 0, 0) :: p3_51 := rfl
set_option maxRecDepth 100000 in
theorem sq3_64 : seek pp3 64 = (64, false, 0, 10, 0, 0, 0) :: (66, false, 6, 0, 2, 76, 0) :: (69, false, 34, 0, 0, 0, 0) :: (70, false, 0, (-100005), 0, 0, 444) :: (72, false, 32, 10, 36, 2, 378) :: (75, false, 25, 0, 0, 0, 0) :: p3_76 := rfl
set_option maxRecDepth 100000 in
theorem sq3_75 : seek pp3 75 = (75, false, 25, 0, 0, 0, 0) :: p3_76 := rfl
set_option maxRecDepth 100000 in
theorem sq3_87 : seek pp3 87 = (87, false, 34, 0, 0, 0, 0) :: (88, false, 8, 0, 10, 0, 333) :: (91, false, 1, 0, 1, 0, 0) :: (92, false, 1, 0, 2, 0, 0) :: (93, false, 1, 0, 3, 0, 0) :: (94, false, 32, 1, 132, 4, 445) :: (97, false, 34, 0, 0, 0, 0) :: (98, false, 8, 0, 10, 0, 333) :: (101, false, 32, 1, 129, 1, 409) :: (104, false, 25, 0, 0, 0, 0) :: [] := rfl
set_option maxRecDepth 100000 in
theorem sq3_97 : seek pp3 97 = (97, false, 34, 0, 0, 0, 0) :: (98, false, 8, 0, 10, 0, 333) :: (101, false, 32, 1, 129, 1, 409) :: (104, false, 25, 0, 0, 0, 0) :: [] := rfl
set_option maxRecDepth 100000 in
theorem sq3_104 : seek pp3 104 = (104, false, 25, 0, 0, 0, 0) :: [] := rfl
def pp4 : List EN := p4_0
theorem sq4_0 : seek pp4 0 = p4_0 := sk4_0
theorem sq4_18 : seek pp4 18 = p4_18 := sk4_18
theorem sq4_40 : seek pp4 40 = p4_40 := sk4_40
set_option maxRecDepth 100000 in
theorem sq4_8 : seek pp4 8 = (8, false, 5, 0, 1, 18, 0) :: (11, false, 34, 0, 0, 0, 0) :: (12, false, 0, (-100001), 0, 0, 377) :: (14, false, 32, 10, 36, 2, 378) :: (17, false, 25, 0, 0, 0, 0) :: p4_18 := rfl
set_option maxRecDepth 100000 in
theorem sq4_17 : seek pp4 17 = (17, false, 25, 0, 0, 0, 0) :: p4_18 := rfl
set_option maxRecDepth 100000 in
theorem sq4_39 : seek pp4 39 = (39, false, 25, 0, 0, 0, 0) :: p4_40 := rfl
set_option maxRecDepth 100000 in
theorem sq4_51 : seek pp4 51 = (51, false, 34, 0, 0, 0, 0) :: (52, false, 8, 0, 10, 0, 333) :: (55, false, 1, 0, 1, 0, 0) :: (56, false, 0, (-1), 0, 0, 0) :: (57, false, 0, 0, 0, 0, 0) :: (58, false, 32, 1, 132, 4, 445) :: (61, false, 1, 0, 2, 0, 0) :: (62, false, 25, 0, 0, 0, 0) :: [] := rfl
set_option maxRecDepth 100000 in
theorem sq4_61 : seek pp4 61 = (61, false, 1, 0, 2, 0, 0) :: (62, false, 25, 0, 0, 0, 0) :: [] := rfl
def pp5 : List EN := p5_0
theorem sq5_0 : seek pp5 0 = p5_0 := sk5_0
theorem sq5_18 : seek pp5 18 = p5_18 := sk5_18
theorem sq5_25 : seek pp5 25 = p5_25 := sk5_25
theorem sq5_45 : seek pp5 45 = p5_45 := sk5_45
theorem sq5_68 : seek pp5 68 = p5_68 := sk5_68
set_option maxRecDepth 100000 in
theorem sq5_8 : seek pp5 8 = (8, false, 5, 0, 0, 18, 0) :: (11, false, 1, 0, 2, 0, 0) :: (12, false, 24, 0, 40, 1, 422) :: (15, false, 5, 0, 1, 25, 0) :: p5_18 := rfl
set_option maxRecDepth 100000 in
theorem sq5_15 : seek pp5 15 = (15, false, 5, 0, 1, 25, 0) :: p5_18 := rfl
set_option maxRecDepth 100000 in
theorem sq5_24 : seek pp5 24 = (24, false, 25, 0, 0, 0, 0) :: p5_25 := rfl
set_option maxRecDepth 100000 in
theorem sq5_44 : seek pp5 44 = (44, false, 25, 0, 0, 0, 0) :: p5_45 := rfl
set_option maxRecDepth 100000 in
theorem sq5_58 : seek pp5 58 = (58, false, 5, 0, 1, 68, 0) :: (61, false, 34, 0, 0, 0, 0) :: (62, false, 0, (-100004), 0, 0, 460) :: (64, false, 32, 10, 36, 2, 378) :: (67, false, 25, 0, 0, 0, 0) :: p5_68 := rfl
set_option maxRecDepth 100000 in
theorem sq5_67 : seek pp5 67 = (67, false, 25, 0, 0, 0, 0) :: p5_68 := rfl
def pp6 : List EN := p6_0
theorem sq6_0 : seek pp6 0 = p6_0 := sk6_0
theorem sq6_18 : seek pp6 18 = p6_18 := sk6_18
theorem sq6_48 : seek pp6 48 = p6_48 := sk6_48
theorem sq6_58 : seek pp6 58 = p6_58 := sk6_58
theorem sq6_68 : seek pp6 68 = p6_68 := sk6_68
theorem sq6_78 : seek pp6 78 = p6_78 := sk6_78
theorem sq6_87 : seek pp6 87 = p6_87 := sk6_87
set_option maxRecDepth 100000 in
theorem sq6_8 : seek pp6 8 = (8, false, 5, 0, 1, 18, 0) :: (11, false, 34, 0, 0, 0, 0) :: (12, false, 0, (-100001), 0, 0, 377) :: (14, false, 32, 10, 36, 2, 378) :: (17, false, 25, 0, 0, 0, 0) :: p6_18 := rfl
set_option maxRecDepth 100000 in
theorem sq6_17 : seek pp6 17 = (17, false, 25, 0, 0, 0, 0) :: p6_18 := rfl
set_option maxRecDepth 100000 in
theorem sq6_86 : seek pp6 86 = (86, false, 25, 0, 0, 0, 0) :: p6_87 := rfl
set_option maxRecDepth 100000 in
theorem sq6_93 : seek pp6 93 = (93, false, 25, 0, 0, 0, 0) :: [] := rfl
def pp7 : List EN := p7_0
theorem sq7_0 : seek pp7 0 = p7_0 := sk7_0
theorem sq7_18 : seek pp7 18 = p7_18 := sk7_18
theorem sq7_38 : seek pp7 38 = p7_38 := sk7_38
theorem sq7_60 : seek pp7 60 = p7_60 := sk7_60
set_option maxRecDepth 100000 in
theorem sq7_8 : seek pp7 8 = (8, false, 5, 0, 1, 18, 0) :: (11, false, 34, 0, 0, 0, 0) :: (12, false, 0, (-100001), 0, 0, 377) :: (14, false, 32, 10, 36, 2, 378) :: (17, false, 25, 0, 0, 0, 0) :: p7_18 := rfl
set_option maxRecDepth 100000 in
theorem sq7_17 : seek pp7 17 = (17, false, 25, 0, 0, 0, 0) :: p7_18 := rfl
set_option maxRecDepth 100000 in
theorem sq7_37 : seek pp7 37 = (37, false, 25, 0, 0, 0, 0) :: p7_38 := rfl
set_option maxRecDepth 100000 in
theorem sq7_50 : seek pp7 50 = (50, false, 5, 0, 1, 60, 0) :: (53, false, 34, 0, 0, 0, 0) :: (54, false, 0, (-100004), 0, 0, 460) :: (56, false, 32, 10, 36, 2, 378) :: (59, false, 25, 0, 0, 0, 0) :: p7_60 := rfl
set_option maxRecDepth 100000 in
theorem sq7_59 : seek pp7 59 = (59, false, 25, 0, 0, 0, 0) :: p7_60 := rfl
set_option maxRecDepth 100000 in
theorem sq7_71 : seek pp7 71 = (71, false, 34, 0, 0, 0, 0) :: (72, false, 8, 0, 10, 0, 333) :: (75, false, 1, 0, 1, 0, 0) :: (76, false, 32, 1, 133, 2, 470) :: (79, false, 34, 0, 0, 0, 0) :: (80, false, 8, 0, 10, 0, 333) :: (83, false, 8, 0, 1, 3, 83) :: (86, false, 1, 0, 1, 0, 0) :: (87, false, 12, 0, 0, 0, 0) :: (88, false, 25, 0, 0, 0, 0) :: [] := rfl
set_option maxRecDepth 100000 in
theorem sq7_79 : seek pp7 79 = (79, false, 34, 0, 0, 0, 0) :: (80, false, 8, 0, 10, 0, 333) :: (83, false, 8, 0, 1, 3, 83) :: (86, false, 1, 0, 1, 0, 0) :: (87, false, 12, 0, 0, 0, 0) :: (88, false, 25, 0, 0, 0, 0) :: [] := rfl
def pp8 : List EN := p8_0
theorem sq8_0 : seek pp8 0 = p8_0 := sk8_0
theorem sq8_18 : seek pp8 18 = p8_18 := sk8_18
theorem sq8_38 : seek pp8 38 = p8_38 := sk8_38
theorem sq8_58 : seek pp8 58 = p8_58 := sk8_58
set_option maxRecDepth 100000 in
theorem sq8_8 : seek pp8 8 = (8, false, 5, 0, 1, 18, 0) :: (11, false, 34, 0, 0, 0, 0) :: (12, false, 0, (-100001), 0, 0, 377) :: (14, false, 32, 10, 36, 2, 378) :: (17, false, 25, 0, 0, 0, 0) :: p8_18 := rfl
set_option maxRecDepth 100000 in
theorem sq8_17 : seek pp8 17 = (17, false, 25, 0, 0, 0, 0) :: p8_18 := rfl
set_option maxRecDepth 100000 in
theorem sq8_37 : seek pp8 37 = (37, false, 25, 0, 0, 0, 0) :: p8_38 := rfl
set_option maxRecDepth 100000 in
theorem sq8_57 : seek pp8 57 = (57, false, 25, 0, 0, 0, 0) :: p8_58 := rfl
set_option maxRecDepth 100000 in
theorem sq8_69 : seek pp8 69 = (69, false, 34, 0, 0, 0, 0) :: (70, false, 8, 0, 10, 0, 333) :: (73, false, 8, 0, 1, 4, 86) :: (76, false, 1, 0, 1, 0, 0) :: (77, false, 12, 0, 0, 0, 0) :: (78, false, 2, 0, 2, 0, 0) :: (79, false, 34, 0, 0, 0, 0) :: (80, false, 8, 0, 10, 0, 333) :: (83, false, 8, 0, 1, 4, 86) :: (86, false, 1, 0, 1, 0, 0) :: (87, false, 0, 0, 0, 0, 0) :: (88, false, 13, 0, 0, 0, 0) :: (89, false, 1, 0, 2, 0, 0) :: (90, false, 25, 0, 0, 0, 0) :: [] := rfl
def pp9 : List EN := p9_0
theorem sq9_0 : seek pp9 0 = p9_0 := sk9_0
theorem sq9_18 : seek pp9 18 = p9_18 := sk9_18
theorem sq9_25 : seek pp9 25 = p9_25 := sk9_25
set_option maxRecDepth 100000 in
theorem sq9_8 : seek pp9 8 = (8, false, 5, 0, 0, 18, 0) :: (11, false, 1, 0, 2, 0, 0) :: (12, false, 24, 0, 38, 1, 482) :: (15, false, 5, 0, 1, 25, 0) :: p9_18 := rfl
set_option maxRecDepth 100000 in
theorem sq9_15 : seek pp9 15 = (15, false, 5, 0, 1, 25, 0) :: p9_18 := rfl
set_option maxRecDepth 100000 in
theorem sq9_24 : seek pp9 24 = (24, false, 25, 0, 0, 0, 0) :: p9_25 := rfl
set_option maxRecDepth 100000 in
theorem sq9_38 : seek pp9 38 = (38, false, 34, 0, 0, 0, 0) :: (39, false, 8, 0, 10, 3, 336) :: (42, false, 8, 0, 3, 1, 150) :: (45, false, 25, 0, 0, 0, 0) :: [] := rfl
def pp10 : List EN := p10_0
theorem sq10_0 : seek pp10 0 = p10_0 := sk10_0
theorem sq10_18 : seek pp10 18 = p10_18 := sk10_18
theorem sq10_25 : seek pp10 25 = p10_25 := sk10_25
theorem sq10_53 : seek pp10 53 = p10_53 := sk10_53
theorem sq10_60 : seek pp10 60 = p10_60 := sk10_60
set_option maxRecDepth 100000 in
theorem sq10_8 : seek pp10 8 = (8, false, 5, 0, 0, 18, 0) :: (11, false, 1, 0, 2, 0, 0) :: (12, false, 24, 0, 38, 1, 482) :: (15, false, 5, 0, 1, 25, 0) :: p10_18 := rfl
set_option maxRecDepth 100000 in
theorem sq10_15 : seek pp10 15 = (15, false, 5, 0, 1, 25, 0) :: p10_18 := rfl
set_option maxRecDepth 100000 in
theorem sq10_24 : seek pp10 24 = (24, false, 25, 0, 0, 0, 0) :: p10_25 := rfl
set_option maxRecDepth 100000 in
theorem sq10_38 : seek pp10 38 = (38, false, 1, 0, 3, 0, 0) :: (39, false, 5, 0, 2, 53, 0) :: (42, false, 1, 0, 3, 0, 0) :: (43, false, 34, 0, 0, 0, 0) :: (44, false, 8, 0, 10, 3, 336) :: (47, false, 8, 0, 3, 1, 150) :: (50, false, 6, 0, 2, 60, 0) :: p10_53 := rfl
set_option maxRecDepth 100000 in
theorem sq10_59 : seek pp10 59 = (59, false, 25, 0, 0, 0, 0) :: p10_60 := rfl
def pp11 : List EN := p11_0
theorem sq11_0 : seek pp11 0 = p11_0 := sk11_0
theorem sq11_18 : seek pp11 18 = p11_18 := sk11_18
theorem sq11_25 : seek pp11 25 = p11_25 := sk11_25
theorem sq11_52 : seek pp11 52 = p11_52 := sk11_52
theorem sq11_53 : seek pp11 53 = p11_53 := sk11_53
set_option maxRecDepth 100000 in
theorem sq11_8 : seek pp11 8 = (8, false, 5, 0, 0, 18, 0) :: (11, false, 1, 0, 2, 0, 0) :: (12, false, 24, 0, 38, 1, 482) :: (15, false, 5, 0, 1, 25, 0) :: p11_18 := rfl
set_option maxRecDepth 100000 in
theorem sq11_15 : seek pp11 15 = (15, false, 5, 0, 1, 25, 0) :: p11_18 := rfl
set_option maxRecDepth 100000 in
theorem sq11_24 : seek pp11 24 = (24, false, 25, 0, 0, 0, 0) :: p11_25 := rfl
set_option maxRecDepth 100000 in
theorem sq11_38 : seek pp11 38 = (38, false, 34, 0, 0, 0, 0) :: (39, false, 8, 0, 10, 3, 336) :: (42, false, 8, 0, 3, 2, 153) :: (45, false, 5, 0, 0, 52, 0) :: (48, false, 0, 1, 0, 0, 0) :: (49, false, 7, 0, 0, 53, 0) :: p11_52 := rfl
def pp12 : List EN := p12_0
theorem sq12_0 : seek pp12 0 = p12_0 := sk12_0
theorem sq12_18 : seek pp12 18 = p12_18 := sk12_18
theorem sq12_25 : seek pp12 25 = p12_25 := sk12_25
theorem sq12_52 : seek pp12 52 = p12_52 := sk12_52
theorem sq12_59 : seek pp12 59 = p12_59 := sk12_59
set_option maxRecDepth 100000 in
theorem sq12_8 : seek pp12 8 = (8, false, 5, 0, 0, 18, 0) :: (11, false, 1, 0, 2, 0, 0) :: (12, false, 24, 0, 38, 1, 482) :: (15, false, 5, 0, 1, 25, 0) :: p12_18 := rfl
set_option maxRecDepth 100000 in
theorem sq12_15 : seek pp12 15 = (15, false, 5, 0, 1, 25, 0) :: p12_18 := rfl
set_option maxRecDepth 100000 in
theorem sq12_24 : seek pp12 24 = (24, false, 25, 0, 0, 0, 0) :: p12_25 := rfl
set_option maxRecDepth 100000 in
theorem sq12_38 : seek pp12 38 = (38, false, 1, 0, 3, 0, 0) :: (39, false, 5, 0, 0, 52, 0) :: (42, false, 34, 0, 0, 0, 0) :: (43, false, 8, 0, 10, 4, 337) :: (46, false, 32, 6, 162, 1, 536) :: (49, false, 7, 0, 0, 59, 0) :: p12_52 := rfl
set_option maxRecDepth 100000 in
theorem sq12_49 : seek pp12 49 = (49, false, 7, 0, 0, 59, 0) :: p12_52 := rfl
def pp13 : List EN := p13_0
theorem sq13_0 : seek pp13 0 = p13_0 := sk13_0
theorem sq13_22 : seek pp13 22 = p13_22 := sk13_22
theorem sq13_29 : seek pp13 29 = p13_29 := sk13_29
theorem sq13_34 : seek pp13 34 = p13_34 := sk13_34
theorem sq13_72 : seek pp13 72 = p13_72 := sk13_72
theorem sq13_78 : seek pp13 78 = p13_78 := sk13_78
set_option maxRecDepth 100000 in
theorem sq13_8 : seek pp13 8 = (8, false, 5, 0, 0, 22, 0) :: (11, false, 34, 0, 0, 0, 0) :: (12, false, 8, 0, 10, 0, 333) :: (15, false, 1, 0, 2, 0, 0) :: (16, false, 32, 1, 121, 2, 421) :: (19, false, 5, 0, 1, 29, 0) :: p13_22 := rfl
set_option maxRecDepth 100000 in
theorem sq13_19 : seek pp13 19 = (19, false, 5, 0, 1, 29, 0) :: p13_22 := rfl
set_option maxRecDepth 100000 in
theorem sq13_28 : seek pp13 28 = (28, false, 25, 0, 0, 0, 0) :: p13_29 := rfl
set_option maxRecDepth 100000 in
theorem sq13_54 : seek pp13 54 = (54, false, 34, 0, 0, 0, 0) :: (55, false, 8, 0, 10, 4, 337) :: (58, false, 1, 0, 2, 0, 0) :: (59, false, 32, 6, 159, 2, 552) :: (62, false, 5, 0, 0, 72, 0) :: (65, false, 1, 0, 3, 0, 0) :: (66, false, 0, 1, 0, 0, 0) :: (67, false, 1, 0, 4, 0, 0) :: (69, false, 4, 0, 5, 0, 0) :: (70, false, 4, 0, 9, 0, 0) :: (71, false, 2, 0, 3, 0, 0) :: p13_72 := rfl
set_option maxRecDepth 100000 in
theorem sq13_62 : seek pp13 62 = (62, false, 5, 0, 0, 72, 0) :: (65, false, 1, 0, 3, 0, 0) :: (66, false, 0, 1, 0, 0, 0) :: (67, false, 1, 0, 4, 0, 0) :: (69, false, 4, 0, 5, 0, 0) :: (70, false, 4, 0, 9, 0, 0) :: (71, false, 2, 0, 3, 0, 0) :: p13_72 := rfl
def pp14 : List EN := p14_0
theorem sq14_0 : seek pp14 0 = p14_0 := sk14_0
theorem sq14_18 : seek pp14 18 = p14_18 := sk14_18
set_option maxRecDepth 100000 in
theorem sq14_8 : seek pp14 8 = (8, false, 5, 0, 1, 18, 0) :: (11, false, 34, 0, 0, 0, 0) :: (12, false, 0, (-100001), 0, 0, 377) :: (14, false, 32, 10, 36, 2, 378) :: (17, false, 25, 0, 0, 0, 0) :: p14_18 := rfl
set_option maxRecDepth 100000 in
theorem sq14_17 : seek pp14 17 = (17, false, 25, 0, 0, 0, 0) :: p14_18 := rfl
set_option maxRecDepth 100000 in
theorem sq14_30 : seek pp14 30 = (30, false, 25, 0, 0, 0, 0) :: [] := rfl
def pp15 : List EN := p15_0
theorem sq15_0 : seek pp15 0 = p15_0 := sk15_0
set_option maxRecDepth 100000 in
theorem sq15_11 : seek pp15 11 = (11, false, 34, 0, 0, 0, 0) :: (12, false, 8, 0, 10, 5, 338) :: (15, false, 8, 0, 4, 2, 206) :: (18, false, 25, 0, 0, 0, 0) :: [] := rfl
def pp16 : List EN := p16_0
theorem sq16_0 : seek pp16 0 = p16_0 := sk16_0
theorem sq16_26 : seek pp16 26 = p16_26 := sk16_26
theorem sq16_33 : seek pp16 33 = p16_33 := sk16_33
theorem sq16_49 : seek pp16 49 = p16_49 := sk16_49
theorem sq16_58 : seek pp16 58 = p16_58 := sk16_58
set_option maxRecDepth 100000 in
theorem sq16_11 : seek pp16 11 = (11, false, 1, 0, 1, 0, 0) :: (12, false, 5, 0, 2, 26, 0) :: (15, false, 1, 0, 1, 0, 0) :: (16, false, 34, 0, 0, 0, 0) :: (17, false, 8, 0, 10, 5, 338) :: (20, false, 8, 0, 4, 2, 206) :: (23, false, 6, 0, 2, 33, 0) :: p16_26 := rfl
set_option maxRecDepth 100000 in
theorem sq16_32 : seek pp16 32 = (32, false, 25, 0, 0, 0, 0) :: p16_33 := rfl
def pp17 : List EN := p17_0
theorem sq17_0 : seek pp17 0 = p17_0 := sk17_0
theorem sq17_25 : seek pp17 25 = p17_25 := sk17_25
theorem sq17_32 : seek pp17 32 = p17_32 := sk17_32
theorem sq17_50 : seek pp17 50 = p17_50 := sk17_50
theorem sq17_69 : seek pp17 69 = p17_69 := sk17_69
set_option maxRecDepth 100000 in
theorem sq17_8 : seek pp17 8 = (8, false, 5, 0, 0, 25, 0) :: (11, false, 1, 0, 2, 0, 0) :: (12, false, 24, 0, 38, 1, 482) :: (15, false, 5, 0, 0, 25, 0) :: (18, false, 1, 0, 3, 0, 0) :: (19, false, 24, 0, 39, 1, 428) :: (22, false, 5, 0, 1, 32, 0) :: p17_25 := rfl
set_option maxRecDepth 100000 in
theorem sq17_15 : seek pp17 15 = (15, false, 5, 0, 0, 25, 0) :: (18, false, 1, 0, 3, 0, 0) :: (19, false, 24, 0, 39, 1, 428) :: (22, false, 5, 0, 1, 32, 0) :: p17_25 := rfl
set_option maxRecDepth 100000 in
theorem sq17_22 : seek pp17 22 = (22, false, 5, 0, 1, 32, 0) :: p17_25 := rfl
set_option maxRecDepth 100000 in
theorem sq17_31 : seek pp17 31 = (31, false, 25, 0, 0, 0, 0) :: p17_32 := rfl
set_option maxRecDepth 100000 in
theorem sq17_40 : seek pp17 40 = (40, false, 5, 0, 1, 50, 0) :: (43, false, 34, 0, 0, 0, 0) :: (44, false, 0, (-100007), 0, 0, 442) :: (46, false, 32, 10, 36, 2, 378) :: (49, false, 25, 0, 0, 0, 0) :: p17_50 := rfl
set_option maxRecDepth 100000 in
theorem sq17_49 : seek pp17 49 = (49, false, 25, 0, 0, 0, 0) :: p17_50 := rfl
set_option maxRecDepth 100000 in
theorem sq17_68 : seek pp17 68 = (68, false, 25, 0, 0, 0, 0) :: p17_69 := rfl
set_option maxRecDepth 100000 in
theorem sq17_80 : seek pp17 80 = (80, false, 34, 0, 0, 0, 0) :: (81, false, 8, 0, 10, 0, 333) :: (84, false, 1, 0, 1, 0, 0) :: (85, false, 1, 0, 2, 0, 0) :: (86, false, 1, 0, 3, 0, 0) :: (87, false, 32, 1, 134, 4, 590) :: (90, false, 34, 0, 0, 0, 0) :: (91, false, 8, 0, 10, 0, 333) :: (94, false, 8, 0, 1, 5, 89) :: (97, false, 0, 1, 0, 0, 0) :: (98, false, 4, 0, 1, 0, 0) :: (99, false, 25, 0, 0, 0, 0) :: [] := rfl
set_option maxRecDepth 100000 in
theorem sq17_90 : seek pp17 90 = (90, false, 34, 0, 0, 0, 0) :: (91, false, 8, 0, 10, 0, 333) :: (94, false, 8, 0, 1, 5, 89) :: (97, false, 0, 1, 0, 0, 0) :: (98, false, 4, 0, 1, 0, 0) :: (99, false, 25, 0, 0, 0, 0) :: [] := rfl
def pp18 : List EN := p18_0
theorem sq18_0 : seek pp18 0 = p18_0 := sk18_0
theorem sq18_17 : seek pp18 17 = p18_17 := sk18_17
set_option maxRecDepth 100000 in
theorem sq18_16 : seek pp18 16 = (16, false, 25, 0, 0, 0, 0) :: p18_17 := rfl
set_option maxRecDepth 100000 in
theorem sq18_28 : seek pp18 28 = (28, false, 34, 0, 0, 0, 0) :: (29, false, 8, 0, 10, 0, 333) :: (32, false, 22, 0, 0, 0, 0) :: (33, false, 8, 0, 1, 5, 89) :: (36, false, 0, 1, 0, 0, 0) :: (37, false, 4, 0, 1, 0, 0) :: (38, false, 9, 0, 1, 5, 89) :: (41, false, 34, 0, 0, 0, 0) :: (42, false, 8, 0, 10, 0, 333) :: (45, false, 8, 0, 1, 5, 89) :: (48, false, 25, 0, 0, 0, 0) :: [] := rfl
def pp19 : List EN := p19_0
theorem sq19_0 : seek pp19 0 = p19_0 := sk19_0
theorem sq19_18 : seek pp19 18 = p19_18 := sk19_18
theorem sq19_25 : seek pp19 25 = p19_25 := sk19_25
set_option maxRecDepth 100000 in
theorem sq19_8 : seek pp19 8 = (8, false, 5, 0, 0, 18, 0) :: (11, false, 1, 0, 2, 0, 0) :: (12, false, 24, 0, 38, 1, 482) :: (15, false, 5, 0, 1, 25, 0) :: p19_18 := rfl
set_option maxRecDepth 100000 in
theorem sq19_15 : seek pp19 15 = (15, false, 5, 0, 1, 25, 0) :: p19_18 := rfl
set_option maxRecDepth 100000 in
theorem sq19_24 : seek pp19 24 = (24, false, 25, 0, 0, 0, 0) :: p19_25 := rfl
set_option maxRecDepth 100000 in
theorem sq19_36 : seek pp19 36 = (36, false, 34, 0, 0, 0, 0) :: (37, false, 8, 0, 10, 0, 333) :: (40, false, 8, 0, 1, 7, 96) :: (43, false, 1, 0, 1, 0, 0) :: (44, false, 12, 0, 0, 0, 0) :: (45, false, 2, 0, 3, 0, 0) :: (46, false, 34, 0, 0, 0, 0) :: (47, false, 8, 0, 10, 0, 333) :: (50, false, 8, 0, 1, 7, 96) :: (53, false, 1, 0, 1, 0, 0) :: (54, false, 1, 0, 2, 0, 0) :: (55, false, 13, 0, 0, 0, 0) :: (56, false, 1, 0, 3, 0, 0) :: (57, false, 25, 0, 0, 0, 0) :: [] := rfl
def pp20 : List EN := p20_0
theorem sq20_0 : seek pp20 0 = p20_0 := sk20_0
theorem sq20_18 : seek pp20 18 = p20_18 := sk20_18
set_option maxRecDepth 100000 in
theorem sq20_8 : seek pp20 8 = (8, false, 5, 0, 1, 18, 0) :: (11, false, 34, 0, 0, 0, 0) :: (12, false, 0, (-100001), 0, 0, 377) :: (14, false, 32, 10, 36, 2, 378) :: (17, false, 25, 0, 0, 0, 0) :: p20_18 := rfl
set_option maxRecDepth 100000 in
theorem sq20_17 : seek pp20 17 = (17, false, 25, 0, 0, 0, 0) :: p20_18 := rfl
set_option maxRecDepth 100000 in
theorem sq20_29 : seek pp20 29 = (29, false, 34, 0, 0, 0, 0) :: (30, false, 8, 0, 10, 6, 339) :: (33, false, 8, 0, 0, 0, 229) :: (36, false, 1, 0, 1, 0, 0) :: (37, false, 12, 0, 0, 0, 0) :: (38, false, 25, 0, 0, 0, 0) :: [] := rfl
def pp21 : List EN := p21_0
theorem sq21_0 : seek pp21 0 = p21_0 := sk21_0
theorem sq21_14 : seek pp21 14 = p21_14 := sk21_14
set_option maxRecDepth 100000 in
theorem sq21_4 : seek pp21 4 = (4, false, 5, 0, 1, 14, 0) :: (7, false, 34, 0, 0, 0, 0) :: (8, false, 0, (-100001), 0, 0, 377) :: (10, false, 32, 10, 36, 2, 378) :: (13, false, 25, 0, 0, 0, 0) :: p21_14 := rfl
set_option maxRecDepth 100000 in
theorem sq21_13 : seek pp21 13 = (13, false, 25, 0, 0, 0, 0) :: p21_14 := rfl
set_option maxRecDepth 100000 in
theorem sq21_25 : seek pp21 25 = (25, false, 34, 0, 0, 0, 0) :: (26, false, 8, 0, 10, 6, 339) :: (29, false, 1, 0, 1, 0, 0) :: (30, false, 32, 0, 116, 2, 619) :: (33, false, 25, 0, 0, 0, 0) :: [] := rfl
set_option maxRecDepth 100000 in
theorem sq21_33 : seek pp21 33 = (33, false, 25, 0, 0, 0, 0) :: [] := rfl
def pp22 : List EN := p22_0
theorem sq22_0 : seek pp22 0 = p22_0 := sk22_0
theorem sq22_36 : seek pp22 36 = p22_36 := sk22_36
theorem sq22_43 : seek pp22 43 = p22_43 := sk22_43
set_option maxRecDepth 100000 in
theorem sq22_11 : seek pp22 11 = (11, false, 34, 0, 0, 0, 0) :: (12, false, 8, 0, 10, 6, 339) :: (15, false, 34, 0, 0, 0, 0) :: (16, false, 8, 0, 10, 1, 334) :: (19, false, 32, 0, 117, 2, 628) :: (22, false, 1, 0, 1, 0, 0) :: (23, false, 5, 0, 0, 36, 0) :: (26, false, 34, 0, 0, 0, 0) :: (27, false, 8, 0, 10, 6, 339) :: (30, false, 8, 0, 0, 1, 231) :: (33, false, 7, 0, 0, 43, 0) :: p22_36 := rfl
set_option maxRecDepth 100000 in
theorem sq22_22 : seek pp22 22 = (22, false, 1, 0, 1, 0, 0) :: (23, false, 5, 0, 0, 36, 0) :: (26, false, 34, 0, 0, 0, 0) :: (27, false, 8, 0, 10, 6, 339) :: (30, false, 8, 0, 0, 1, 231) :: (33, false, 7, 0, 0, 43, 0) :: p22_36 := rfl
def pp23 : List EN := p23_0
theorem sq23_0 : seek pp23 0 = p23_0 := sk23_0
set_option maxRecDepth 100000 in
theorem sq23_11 : seek pp23 11 = (11, false, 34, 0, 0, 0, 0) :: (12, false, 8, 0, 10, 6, 339) :: (15, false, 34, 0, 0, 0, 0) :: (16, false, 8, 0, 10, 0, 333) :: (19, false, 32, 0, 117, 2, 628) :: (22, false, 34, 0, 0, 0, 0) :: (23, false, 8, 0, 10, 6, 339) :: (26, false, 8, 0, 0, 2, 233) :: (29, false, 25, 0, 0, 0, 0) :: [] := rfl
set_option maxRecDepth 100000 in
theorem sq23_22 : seek pp23 22 = (22, false, 34, 0, 0, 0, 0) :: (23, false, 8, 0, 10, 6, 339) :: (26, false, 8, 0, 0, 2, 233) :: (29, false, 25, 0, 0, 0, 0) :: [] := rfl
def pp24 : List EN := p24_0
theorem sq24_0 : seek pp24 0 = p24_0 := sk24_0
theorem sq24_22 : seek pp24 22 = p24_22 := sk24_22
theorem sq24_29 : seek pp24 29 = p24_29 := sk24_29
theorem sq24_56 : seek pp24 56 = p24_56 := sk24_56
theorem sq24_57 : seek pp24 57 = p24_57 := sk24_57
set_option maxRecDepth 100000 in
theorem sq24_8 : seek pp24 8 = (8, false, 5, 0, 0, 22, 0) :: (11, false, 34, 0, 0, 0, 0) :: (12, false, 8, 0, 10, 0, 333) :: (15, false, 1, 0, 2, 0, 0) :: (16, false, 32, 1, 121, 2, 421) :: (19, false, 5, 0, 1, 29, 0) :: p24_22 := rfl
set_option maxRecDepth 100000 in
theorem sq24_19 : seek pp24 19 = (19, false, 5, 0, 1, 29, 0) :: p24_22 := rfl
set_option maxRecDepth 100000 in
theorem sq24_28 : seek pp24 28 = (28, false, 25, 0, 0, 0, 0) :: p24_29 := rfl
set_option maxRecDepth 100000 in
theorem sq24_42 : seek pp24 42 = (42, false, 2, 0, 3, 0, 0) :: (43, false, 1, 0, 3, 0, 0) :: (44, false, 5, 0, 3, 56, 0) :: (47, false, 34, 0, 0, 0, 0) :: (48, false, 0, (-100006), 0, 0, 450) :: (50, false, 32, 10, 36, 2, 378) :: (53, false, 7, 0, 0, 57, 0) :: p24_56 := rfl
set_option maxRecDepth 100000 in
theorem sq24_53 : seek pp24 53 = (53, false, 7, 0, 0, 57, 0) :: p24_56 := rfl
def pp25 : List EN := p25_0
theorem sq25_0 : seek pp25 0 = p25_0 := sk25_0
theorem sq25_20 : seek pp25 20 = p25_20 := sk25_20
set_option maxRecDepth 100000 in
theorem sq25_9 : seek pp25 9 = (9, false, 4, 0, 7, 0, 0) :: (10, false, 5, 0, 0, 20, 0) :: (13, false, 34, 0, 0, 0, 0) :: (14, false, 0, (-100001), 0, 0, 377) :: (16, false, 32, 10, 36, 2, 378) :: (19, false, 25, 0, 0, 0, 0) :: p25_20 := rfl
set_option maxRecDepth 100000 in
theorem sq25_19 : seek pp25 19 = (19, false, 25, 0, 0, 0, 0) :: p25_20 := rfl
set_option maxRecDepth 100000 in
theorem sq25_31 : seek pp25 31 = (31, false, 34, 0, 0, 0, 0) :: (32, false, 8, 0, 10, 0, 333) :: (35, false, 1, 0, 1, 0, 0) :: (36, false, 32, 1, 137, 2, 688) :: (39, false, 1, 0, 1, 0, 0) :: (40, false, 24, 0, 177, 1, 693) :: (43, false, 25, 0, 0, 0, 0) :: [] := rfl
set_option maxRecDepth 100000 in
theorem sq25_39 : seek pp25 39 = (39, false, 1, 0, 1, 0, 0) :: (40, false, 24, 0, 177, 1, 693) :: (43, false, 25, 0, 0, 0, 0) :: [] := rfl
set_option maxRecDepth 100000 in
theorem sq25_43 : seek pp25 43 = (43, false, 25, 0, 0, 0, 0) :: [] := rfl
def pp26 : List EN := p26_0
theorem sq26_0 : seek pp26 0 = p26_0 := sk26_0
theorem sq26_22 : seek pp26 22 = p26_22 := sk26_22
theorem sq26_29 : seek pp26 29 = p26_29 := sk26_29
theorem sq26_62 : seek pp26 62 = p26_62 := sk26_62
theorem sq26_71 : seek pp26 71 = p26_71 := sk26_71
set_option maxRecDepth 100000 in
theorem sq26_8 : seek pp26 8 = (8, false, 5, 0, 0, 22, 0) :: (11, false, 34, 0, 0, 0, 0) :: (12, false, 8, 0, 10, 0, 333) :: (15, false, 1, 0, 2, 0, 0) :: (16, false, 32, 1, 121, 2, 421) :: (19, false, 5, 0, 1, 29, 0) :: p26_22 := rfl
set_option maxRecDepth 100000 in
theorem sq26_19 : seek pp26 19 = (19, false, 5, 0, 1, 29, 0) :: p26_22 := rfl
set_option maxRecDepth 100000 in
theorem sq26_28 : seek pp26 28 = (28, false, 25, 0, 0, 0, 0) :: p26_29 := rfl
set_option maxRecDepth 100000 in
theorem sq26_41 : seek pp26 41 = (41, false, 34, 0, 0, 0, 0) :: (42, false, 8, 0, 10, 8, 341) :: (45, false, 8, 0, 9, 0, 284) :: (48, false, 1, 0, 2, 0, 0) :: (49, false, 12, 0, 0, 0, 0) :: (50, false, 5, 0, 3, 62, 0) :: (53, false, 34, 0, 0, 0, 0) :: (54, false, 0, (-100006), 0, 0, 450) :: (56, false, 32, 10, 36, 2, 378) :: (59, false, 7, 0, 0, 71, 0) :: p26_62 := rfl
set_option maxRecDepth 100000 in
theorem sq26_59 : seek pp26 59 = (59, false, 7, 0, 0, 71, 0) :: p26_62 := rfl
def pp27 : List EN := p27_0
theorem sq27_0 : seek pp27 0 = p27_0 := sk27_0
theorem sq27_22 : seek pp27 22 = p27_22 := sk27_22
theorem sq27_29 : seek pp27 29 = p27_29 := sk27_29
theorem sq27_67 : seek pp27 67 = p27_67 := sk27_67
theorem sq27_68 : seek pp27 68 = p27_68 := sk27_68
set_option maxRecDepth 100000 in
theorem sq27_8 : seek pp27 8 = (8, false, 5, 0, 0, 22, 0) :: (11, false, 34, 0, 0, 0, 0) :: (12, false, 8, 0, 10, 0, 333) :: (15, false, 1, 0, 2, 0, 0) :: (16, false, 32, 1, 121, 2, 421) :: (19, false, 5, 0, 1, 29, 0) :: p27_22 := rfl
set_option maxRecDepth 100000 in
theorem sq27_19 : seek pp27 19 = (19, false, 5, 0, 1, 29, 0) :: p27_22 := rfl
set_option maxRecDepth 100000 in
theorem sq27_28 : seek pp27 28 = (28, false, 25, 0, 0, 0, 0) :: p27_29 := rfl
set_option maxRecDepth 100000 in
theorem sq27_41 : seek pp27 41 = (41, false, 34, 0, 0, 0, 0) :: (42, false, 8, 0, 10, 8, 341) :: (45, false, 34, 0, 0, 0, 0) :: (46, false, 8, 0, 10, 0, 333) :: (49, false, 1, 0, 1, 0, 0) :: (50, false, 32, 9, 176, 3, 716) :: (53, false, 2, 0, 3, 0, 0) :: (54, false, 1, 0, 3, 0, 0) :: (55, false, 5, 0, 3, 67, 0) :: (58, false, 34, 0, 0, 0, 0) :: (59, false, 0, (-100006), 0, 0, 450) :: (61, false, 32, 10, 36, 2, 378) :: (64, false, 7, 0, 0, 68, 0) :: p27_67 := rfl
set_option maxRecDepth 100000 in
theorem sq27_53 : seek pp27 53 = (53, false, 2, 0, 3, 0, 0) :: (54, false, 1, 0, 3, 0, 0) :: (55, false, 5, 0, 3, 67, 0) :: (58, false, 34, 0, 0, 0, 0) :: (59, false, 0, (-100006), 0, 0, 450) :: (61, false, 32, 10, 36, 2, 378) :: (64, false, 7, 0, 0, 68, 0) :: p27_67 := rfl
set_option maxRecDepth 100000 in
theorem sq27_64 : seek pp27 64 = (64, false, 7, 0, 0, 68, 0) :: p27_67 := rfl
def pp28 : List EN := p28_0
theorem sq28_0 : seek pp28 0 = p28_0 := sk28_0
theorem sq28_18 : seek pp28 18 = p28_18 := sk28_18
theorem sq28_36 : seek pp28 36 = p28_36 := sk28_36
set_option maxRecDepth 100000 in
theorem sq28_8 : seek pp28 8 = (8, false, 5, 0, 1, 18, 0) :: (11, false, 34, 0, 0, 0, 0) :: (12, false, 0, (-100001), 0, 0, 377) :: (14, false, 32, 10, 36, 2, 378) :: (17, false, 25, 0, 0, 0, 0) :: p28_18 := rfl
set_option maxRecDepth 100000 in
theorem sq28_17 : seek pp28 17 = (17, false, 25, 0, 0, 0, 0) :: p28_18 := rfl
set_option maxRecDepth 100000 in
theorem sq28_26 : seek pp28 26 = (26, false, 5, 0, 1, 36, 0) :: (29, false, 34, 0, 0, 0, 0) :: (30, false, 0, (-100006), 0, 0, 450) :: (32, false, 32, 10, 36, 2, 378) :: (35, false, 25, 0, 0, 0, 0) :: p28_36 := rfl
set_option maxRecDepth 100000 in
theorem sq28_35 : seek pp28 35 = (35, false, 25, 0, 0, 0, 0) :: p28_36 := rfl
set_option maxRecDepth 100000 in
theorem sq28_48 : seek pp28 48 = (48, false, 34, 0, 0, 0, 0) :: (49, false, 8, 0, 10, 8, 341) :: (52, false, 8, 0, 9, 1, 286) :: (55, false, 25, 0, 0, 0, 0) :: [] := rfl
def pp29 : List EN := p29_0
theorem sq29_0 : seek pp29 0 = p29_0 := sk29_0
theorem sq29_22 : seek pp29 22 = p29_22 := sk29_22
theorem sq29_29 : seek pp29 29 = p29_29 := sk29_29
theorem sq29_56 : seek pp29 56 = p29_56 := sk29_56
theorem sq29_57 : seek pp29 57 = p29_57 := sk29_57
set_option maxRecDepth 100000 in
theorem sq29_8 : seek pp29 8 = (8, false, 5, 0, 0, 22, 0) :: (11, false, 34, 0, 0, 0, 0) :: (12, false, 8, 0, 10, 0, 333) :: (15, false, 1, 0, 2, 0, 0) :: (16, false, 32, 1, 121, 2, 421) :: (19, false, 5, 0, 1, 29, 0) :: p29_22 := rfl
set_option maxRecDepth 100000 in
theorem sq29_19 : seek pp29 19 = (19, false, 5, 0, 1, 29, 0) :: p29_22 := rfl
set_option maxRecDepth 100000 in
theorem sq29_28 : seek pp29 28 = (28, false, 25, 0, 0, 0, 0) :: p29_29 := rfl
set_option maxRecDepth 100000 in
theorem sq29_42 : seek pp29 42 = (42, false, 2, 0, 3, 0, 0) :: (43, false, 1, 0, 3, 0, 0) :: (44, false, 5, 0, 3, 56, 0) :: (47, false, 34, 0, 0, 0, 0) :: (48, false, 0, (-100006), 0, 0, 450) :: (50, false, 32, 10, 36, 2, 378) :: (53, false, 7, 0, 0, 57, 0) :: p29_56 := rfl
set_option maxRecDepth 100000 in
theorem sq29_53 : seek pp29 53 = (53, false, 7, 0, 0, 57, 0) :: p29_56 := rfl
def pp30 : List EN := p30_0
theorem sq30_0 : seek pp30 0 = p30_0 := sk30_0
theorem sq30_14 : seek pp30 14 = p30_14 := sk30_14
theorem sq30_21 : seek pp30 21 = p30_21 := sk30_21
theorem sq30_33 : seek pp30 33 = p30_33 := sk30_33
theorem sq30_46 : seek pp30 46 = p30_46 := sk30_46
theorem sq30_60 : seek pp30 60 = p30_60 := sk30_60
theorem sq30_61 : seek pp30 61 = p30_61 := sk30_61
set_option maxRecDepth 100000 in
theorem sq30_4 : seek pp30 4 = (4, false, 5, 0, 0, 14, 0) :: (7, false, 1, 0, 2, 0, 0) :: (8, false, 24, 0, 42, 1, 751) :: (11, false, 5, 0, 1, 21, 0) :: p30_14 := rfl
set_option maxRecDepth 100000 in
theorem sq30_11 : seek pp30 11 = (11, false, 5, 0, 1, 21, 0) :: p30_14 := rfl
set_option maxRecDepth 100000 in
theorem sq30_20 : seek pp30 20 = (20, false, 25, 0, 0, 0, 0) :: p30_21 := rfl
set_option maxRecDepth 100000 in
theorem sq30_32 : seek pp30 32 = (32, false, 25, 0, 0, 0, 0) :: p30_33 := rfl
set_option maxRecDepth 100000 in
theorem sq30_45 : seek pp30 45 = (45, false, 25, 0, 0, 0, 0) :: p30_46 := rfl
set_option maxRecDepth 100000 in
theorem sq30_64 : seek pp30 64 = (64, false, 34, 0, 0, 0, 0) :: (65, false, 8, 0, 10, 10, 343) :: (68, false, 8, 0, 5, 1, 324) :: (71, false, 1, 0, 1, 0, 0) :: (72, false, 12, 0, 0, 0, 0) :: (73, false, 25, 0, 0, 0, 0) :: [] := rfl
def pp31 : List EN := p31_0
theorem sq31_0 : seek pp31 0 = p31_0 := sk31_0
theorem sq31_14 : seek pp31 14 = p31_14 := sk31_14
theorem sq31_33 : seek pp31 33 = p31_33 := sk31_33
theorem sq31_50 : seek pp31 50 = p31_50 := sk31_50
theorem sq31_57 : seek pp31 57 = p31_57 := sk31_57
set_option maxRecDepth 100000 in
theorem sq31_4 : seek pp31 4 = (4, false, 5, 0, 1, 14, 0) :: (7, false, 34, 0, 0, 0, 0) :: (8, false, 0, (-100001), 0, 0, 377) :: (10, false, 32, 10, 36, 2, 378) :: (13, false, 25, 0, 0, 0, 0) :: p31_14 := rfl
set_option maxRecDepth 100000 in
theorem sq31_13 : seek pp31 13 = (13, false, 25, 0, 0, 0, 0) :: p31_14 := rfl
set_option maxRecDepth 100000 in
theorem sq31_22 : seek pp31 22 = (22, false, 5, 0, 0, 33, 0) :: (25, false, 34, 0, 0, 0, 0) :: (26, false, 0, (-100002), 0, 0, 767) :: (29, false, 32, 10, 36, 2, 378) :: (32, false, 25, 0, 0, 0, 0) :: p31_33 := rfl
set_option maxRecDepth 100000 in
theorem sq31_32 : seek pp31 32 = (32, false, 25, 0, 0, 0, 0) :: p31_33 := rfl
set_option maxRecDepth 100000 in
theorem sq31_56 : seek pp31 56 = (56, false, 25, 0, 0, 0, 0) :: p31_57 := rfl
set_option maxRecDepth 100000 in
theorem sq31_67 : seek pp31 67 = (67, false, 0, 0, 0, 0, 0) :: (68, false, 25, 0, 0, 0, 0) :: [] := rfl
def pp32 : List EN := p32_0
theorem sq32_0 : seek pp32 0 = p32_0 := sk32_0
theorem sq32_14 : seek pp32 14 = p32_14 := sk32_14
theorem sq32_21 : seek pp32 21 = p32_21 := sk32_21
theorem sq32_43 : seek pp32 43 = p32_43 := sk32_43
theorem sq32_51 : seek pp32 51 = p32_51 := sk32_51
theorem sq32_79 : seek pp32 79 = p32_79 := sk32_79
theorem sq32_108 : seek pp32 108 = p32_108 := sk32_108
theorem sq32_115 : seek pp32 115 = p32_115 := sk32_115
set_option maxRecDepth 100000 in
theorem sq32_4 : seek pp32 4 = (4, false, 5, 0, 0, 14, 0) :: (7, false, 1, 0, 3, 0, 0) :: (8, false, 24, 0, 41, 1, 748) :: (11, false, 5, 0, 1, 21, 0) :: p32_14 := rfl
set_option maxRecDepth 100000 in
theorem sq32_11 : seek pp32 11 = (11, false, 5, 0, 1, 21, 0) :: p32_14 := rfl
set_option maxRecDepth 100000 in
theorem sq32_20 : seek pp32 20 = (20, false, 25, 0, 0, 0, 0) :: p32_21 := rfl
set_option maxRecDepth 100000 in
theorem sq32_29 : seek pp32 29 = (29, false, 5, 0, 1, 43, 0) :: (32, false, 34, 0, 0, 0, 0) :: (33, false, 8, 0, 10, 10, 343) :: (36, false, 1, 0, 3, 0, 0) :: (37, false, 32, 5, 149, 2, 763) :: (40, false, 5, 0, 0, 51, 0) :: p32_43 := rfl
set_option maxRecDepth 100000 in
theorem sq32_40 : seek pp32 40 = (40, false, 5, 0, 0, 51, 0) :: p32_43 := rfl
set_option maxRecDepth 100000 in
theorem sq32_50 : seek pp32 50 = (50, false, 25, 0, 0, 0, 0) :: p32_51 := rfl
set_option maxRecDepth 100000 in
theorem sq32_78 : seek pp32 78 = (78, false, 25, 0, 0, 0, 0) :: p32_79 := rfl
set_option maxRecDepth 100000 in
theorem sq32_90 : seek pp32 90 = (90, false, 5, 0, 0, 108, 0) :: (93, false, 34, 0, 0, 0, 0) :: (94, false, 8, 0, 10, 10, 343) :: (97, false, 1, 0, 3, 0, 0) :: (98, false, 1, 0, 4, 0, 0) :: (100, false, 1, 0, 5, 0, 0) :: (102, false, 32, 5, 153, 4, 777) :: (105, false, 5, 0, 1, 115, 0) :: p32_108 := rfl
set_option maxRecDepth 100000 in
theorem sq32_105 : seek pp32 105 = (105, false, 5, 0, 1, 115, 0) :: p32_108 := rfl
set_option maxRecDepth 100000 in
theorem sq32_114 : seek pp32 114 = (114, false, 25, 0, 0, 0, 0) :: p32_115 := rfl
set_option maxRecDepth 100000 in
theorem sq32_129 : seek pp32 129 = (129, false, 1, 0, 5, 0, 0) :: (131, false, 25, 0, 0, 0, 0) :: [] := rfl
def pp33 : List EN := p33_0
theorem sq33_0 : seek pp33 0 = p33_0 := sk33_0
theorem sq33_22 : seek pp33 22 = p33_22 := sk33_22
theorem sq33_29 : seek pp33 29 = p33_29 := sk33_29
theorem sq33_48 : seek pp33 48 = p33_48 := sk33_48
theorem sq33_64 : seek pp33 64 = p33_64 := sk33_64
theorem sq33_120 : seek pp33 120 = p33_120 := sk33_120
theorem sq33_126 : seek pp33 126 = p33_126 := sk33_126
set_option maxRecDepth 100000 in
theorem sq33_19 : seek pp33 19 = (19, false, 5, 0, 1, 29, 0) :: p33_22 := rfl
set_option maxRecDepth 100000 in
theorem sq33_28 : seek pp33 28 = (28, false, 25, 0, 0, 0, 0) :: p33_29 := rfl
set_option maxRecDepth 100000 in
theorem sq33_37 : seek pp33 37 = (37, false, 5, 0, 0, 48, 0) :: (40, false, 34, 0, 0, 0, 0) :: (41, false, 0, (-100002), 0, 0, 767) :: (44, false, 32, 10, 36, 2, 378) :: (47, false, 25, 0, 0, 0, 0) :: p33_48 := rfl
set_option maxRecDepth 100000 in
theorem sq33_47 : seek pp33 47 = (47, false, 25, 0, 0, 0, 0) :: p33_48 := rfl
set_option maxRecDepth 100000 in
theorem sq33_59 : seek pp33 59 = (59, false, 0, 0, 0, 0, 0) :: (60, false, 2, 0, 3, 0, 0) :: (61, false, 0, 0, 0, 0, 0) :: (62, false, 2, 0, 4, 0, 0) :: p33_64 := rfl
set_option maxRecDepth 100000 in
theorem sq33_111 : seek pp33 111 = (111, false, 32, 1, 138, 3, 794) :: (114, false, 5, 0, 0, 120, 0) :: (117, false, 3, 1, 3, 0, 0) :: p33_120 := rfl
set_option maxRecDepth 100000 in
theorem sq33_114 : seek pp33 114 = (114, false, 5, 0, 0, 120, 0) :: (117, false, 3, 1, 3, 0, 0) :: p33_120 := rfl
def pp34 : List EN := p34_0
theorem sq34_0 : seek pp34 0 = p34_0 := sk34_0
theorem sq34_17 : seek pp34 17 = p34_17 := sk34_17
set_option maxRecDepth 100000 in
theorem sq34_16 : seek pp34 16 = (16, false, 25, 0, 0, 0, 0) :: p34_17 := rfl
set_option maxRecDepth 100000 in
theorem sq34_28 : seek pp34 28 = (28, false, 34, 0, 0, 0, 0) :: (29, false, 8, 0, 10, 2, 335) :: (32, false, 8, 0, 2, 2, 131) :: (35, false, 25, 0, 0, 0, 0) :: [] := rfl
def pp35 : List EN := p35_0
theorem sq35_0 : seek pp35 0 = p35_0 := sk35_0
theorem sq35_40 : seek pp35 40 = p35_40 := sk35_40
theorem sq35_56 : seek pp35 56 = p35_56 := sk35_56
theorem sq35_64 : seek pp35 64 = p35_64 := sk35_64
theorem sq35_72 : seek pp35 72 = p35_72 := sk35_72
theorem sq35_81 : seek pp35 81 = p35_81 := sk35_81
theorem sq35_89 : seek pp35 89 = p35_89 := sk35_89
theorem sq35_94 : seek pp35 94 = p35_94 := sk35_94
set_option maxRecDepth 100000 in
theorem sq35_63 : seek pp35 63 = (63, false, 25, 0, 0, 0, 0) :: p35_64 := rfl
set_option maxRecDepth 100000 in
theorem sq35_80 : seek pp35 80 = (80, false, 25, 0, 0, 0, 0) :: p35_81 := rfl
set_option maxRecDepth 100000 in
theorem sq35_88 : seek pp35 88 = (88, false, 25, 0, 0, 0, 0) :: p35_89 := rfl
set_option maxRecDepth 100000 in
theorem sq35_100 : seek pp35 100 = (100, false, 25, 0, 0, 0, 0) :: [] := rfl
def pp36 : List EN := p36_0
theorem sq36_0 : seek pp36 0 = p36_0 := sk36_0
def pp37 : List EN := p37_0
theorem sq37_0 : seek pp37 0 = p37_0 := sk37_0
theorem sq37_15 : seek pp37 15 = p37_15 := sk37_15
theorem sq37_16 : seek pp37 16 = p37_16 := sk37_16
def pp38 : List EN := p38_0
theorem sq38_0 : seek pp38 0 = p38_0 := sk38_0
theorem sq38_13 : seek pp38 13 = p38_13 := sk38_13
theorem sq38_14 : seek pp38 14 = p38_14 := sk38_14
def pp39 : List EN := p39_0
theorem sq39_0 : seek pp39 0 = p39_0 := sk39_0
theorem sq39_13 : seek pp39 13 = p39_13 := sk39_13
theorem sq39_14 : seek pp39 14 = p39_14 := sk39_14
def pp40 : List EN := p40_0
theorem sq40_0 : seek pp40 0 = p40_0 := sk40_0
theorem sq40_13 : seek pp40 13 = p40_13 := sk40_13
theorem sq40_14 : seek pp40 14 = p40_14 := sk40_14
def pp41 : List EN := p41_0
theorem sq41_0 : seek pp41 0 = p41_0 := sk41_0
theorem sq41_13 : seek pp41 13 = p41_13 := sk41_13
theorem sq41_14 : seek pp41 14 = p41_14 := sk41_14
def pp42 : List EN := p42_0
theorem sq42_0 : seek pp42 0 = p42_0 := sk42_0
theorem sq42_22 : seek pp42 22 = p42_22 := sk42_22
theorem sq42_26 : seek pp42 26 = p42_26 := sk42_26
theorem sq42_27 : seek pp42 27 = p42_27 := sk42_27
def pp43 : List EN := p43_0
theorem sq43_0 : seek pp43 0 = p43_0 := sk43_0
theorem sq43_10 : seek pp43 10 = p43_10 := sk43_10
theorem sq43_26 : seek pp43 26 = p43_26 := sk43_26
theorem sq43_30 : seek pp43 30 = p43_30 := sk43_30
theorem sq43_31 : seek pp43 31 = p43_31 := sk43_31
theorem sq43_32 : seek pp43 32 = p43_32 := sk43_32
theorem sq43_40 : seek pp43 40 = p43_40 := sk43_40
theorem sq43_41 : seek pp43 41 = p43_41 := sk43_41
set_option maxRecDepth 100000 in
theorem sq43_9 : seek pp43 9 = (9, false, 25, 0, 0, 0, 0) :: p43_10 := rfl
set_option maxRecDepth 100000 in
theorem sq43_14 : seek pp43 14 = (14, false, 5, 0, 0, 32, 0) :: (17, false, 1, 0, 1, 0, 0) :: (18, false, 5, 0, 0, 26, 0) :: (21, false, 1, 0, 1, 0, 0) :: (22, false, 0, 1, 0, 0, 0) :: (23, false, 6, 0, 1, 30, 0) :: p43_26 := rfl
def pp44 : List EN := p44_0
theorem sq44_0 : seek pp44 0 = p44_0 := sk44_0
theorem sq44_15 : seek pp44 15 = p44_15 := sk44_15
theorem sq44_19 : seek pp44 19 = p44_19 := sk44_19
theorem sq44_20 : seek pp44 20 = p44_20 := sk44_20
def pp45 : List EN := p45_0
theorem sq45_0 : seek pp45 0 = p45_0 := sk45_0
theorem sq45_4 : seek pp45 4 = p45_4 := sk45_4
theorem sq45_23 : seek pp45 23 = p45_23 := sk45_23
theorem sq45_35 : seek pp45 35 = p45_35 := sk45_35
set_option maxRecDepth 100000 in
theorem sq45_13 : seek pp45 13 = (13, false, 5, 0, 0, 35, 0) :: (16, false, 1, 0, 2, 0, 0) :: (17, false, 1, 0, 1, 0, 0) :: (18, false, 6, 0, 1, 23, 0) :: (21, false, 0, 1, 0, 0, 0) :: (22, false, 25, 0, 0, 0, 0) :: p45_23 := rfl
def pp46 : List EN := p46_0
theorem sq46_0 : seek pp46 0 = p46_0 := sk46_0
set_option maxRecDepth 100000 in
theorem sq46_173 : seek pp46 173 = p46_173 := sk46_173
set_option maxRecDepth 100000 in
theorem sq46_194 : seek pp46 194 = p46_194 := sk46_194
def pp47 : List EN := p47_0
theorem sq47_0 : seek pp47 0 = p47_0 := sk47_0
def pp48 : List EN := p48_0
theorem sq48_0 : seek pp48 0 = p48_0 := sk48_0
theorem sq48_14 : seek pp48 14 = p48_14 := sk48_14
theorem sq48_15 : seek pp48 15 = p48_15 := sk48_15
def pp49 : List EN := p49_0
theorem sq49_0 : seek pp49 0 = p49_0 := sk49_0
theorem sq49_40 : seek pp49 40 = p49_40 := sk49_40
theorem sq49_41 : seek pp49 41 = p49_41 := sk49_41
set_option maxRecDepth 100000 in
theorem sq49_7 : seek pp49 7 = (7, false, 5, 0, 0, 40, 0) :: (10, false, 1, 0, 1, 0, 0) :: (11, false, 0, 9, 0, 0, 0) :: (13, false, 4, 0, 4, 0, 0) :: (14, false, 34, 0, 0, 0, 0) :: (15, false, 8, 0, 11, 0, 816) :: (18, false, 0, 0, 0, 0, 0) :: (19, false, 12, 0, 0, 0, 0) :: (20, false, 6, 0, 3, 40, 0) :: (23, false, 1, 0, 1, 0, 0) :: (24, false, 0, 9, 0, 0, 0) :: (26, false, 4, 0, 3, 0, 0) :: (27, false, 34, 0, 0, 0, 0) :: (28, false, 8, 0, 11, 0, 816) :: (31, false, 0, 1, 0, 0, 0) :: (32, false, 12, 0, 0, 0, 0) :: (33, false, 6, 0, 3, 40, 0) :: (36, false, 0, 1, 0, 0, 0) :: (37, false, 7, 0, 0, 41, 0) :: p49_40 := rfl
def pp50 : List EN := p50_0
theorem sq50_0 : seek pp50 0 = p50_0 := sk50_0
set_option maxRecDepth 100000 in
theorem sq50_6 : seek pp50 6 = (6, false, 25, 0, 0, 0, 0) :: [] := rfl
def pp51 : List EN := p51_0
theorem sq51_0 : seek pp51 0 = p51_0 := sk51_0
theorem sq51_18 : seek pp51 18 = p51_18 := sk51_18
theorem sq51_19 : seek pp51 19 = p51_19 := sk51_19
def pp52 : List EN := p52_0
theorem sq52_0 : seek pp52 0 = p52_0 := sk52_0
def pp53 : List EN := p53_0
theorem sq53_0 : seek pp53 0 = p53_0 := sk53_0
theorem sq53_15 : seek pp53 15 = p53_15 := sk53_15
theorem sq53_19 : seek pp53 19 = p53_19 := sk53_19
theorem sq53_20 : seek pp53 20 = p53_20 := sk53_20
def pp54 : List EN := p54_0
theorem sq54_0 : seek pp54 0 = p54_0 := sk54_0
theorem sq54_11 : seek pp54 11 = p54_11 := sk54_11
theorem sq54_40 : seek pp54 40 = p54_40 := sk54_40
theorem sq54_50 : seek pp54 50 = p54_50 := sk54_50
theorem sq54_52 : seek pp54 52 = p54_52 := sk54_52
theorem sq54_86 : seek pp54 86 = p54_86 := sk54_86
def pp55 : List EN := p55_0
theorem sq55_0 : seek pp55 0 = p55_0 := sk55_0
theorem sq55_14 : seek pp55 14 = p55_14 := sk55_14
theorem sq55_26 : seek pp55 26 = p55_26 := sk55_26
theorem sq55_60 : seek pp55 60 = p55_60 := sk55_60
set_option maxRecDepth 100000 in
theorem sq55_13 : seek pp55 13 = (13, false, 25, 0, 0, 0, 0) :: p55_14 := rfl
def pp56 : List EN := p56_0
theorem sq56_0 : seek pp56 0 = p56_0 := sk56_0
theorem sq56_4 : seek pp56 4 = p56_4 := sk56_4
theorem sq56_24 : seek pp56 24 = p56_24 := sk56_24
theorem sq56_25 : seek pp56 25 = p56_25 := sk56_25
theorem sq56_33 : seek pp56 33 = p56_33 := sk56_33
set_option maxRecDepth 100000 in
theorem sq56_16 : seek pp56 16 = (16, false, 0, (-1), 0, 0, 0) :: (17, false, 6, 0, 0, 24, 0) :: (20, false, 0, 1, 0, 0, 0) :: (21, false, 7, 0, 0, 25, 0) :: p56_24 := rfl
def pp57 : List EN := p57_0
theorem sq57_0 : seek pp57 0 = p57_0 := sk57_0
theorem sq57_4 : seek pp57 4 = p57_4 := sk57_4
theorem sq57_24 : seek pp57 24 = p57_24 := sk57_24
theorem sq57_25 : seek pp57 25 = p57_25 := sk57_25
theorem sq57_33 : seek pp57 33 = p57_33 := sk57_33
set_option maxRecDepth 100000 in
theorem sq57_16 : seek pp57 16 = (16, false, 0, 4, 0, 0, 0) :: (17, false, 6, 0, 1, 24, 0) :: (20, false, 0, 1, 0, 0, 0) :: (21, false, 7, 0, 0, 25, 0) :: p57_24 := rfl
def pp58 : List EN := p58_0
theorem sq58_0 : seek pp58 0 = p58_0 := sk58_0
def pp59 : List EN := p59_0
theorem sq59_0 : seek pp59 0 = p59_0 := sk59_0
theorem sq59_20 : seek pp59 20 = p59_20 := sk59_20
theorem sq59_27 : seek pp59 27 = p59_27 := sk59_27
theorem sq59_47 : seek pp59 47 = p59_47 := sk59_47
theorem sq59_68 : seek pp59 68 = p59_68 := sk59_68
theorem sq59_74 : seek pp59 74 = p59_74 := sk59_74
theorem sq59_91 : seek pp59 91 = p59_91 := sk59_91
theorem sq59_120 : seek pp59 120 = p59_120 := sk59_120
set_option maxRecDepth 100000 in
theorem sq59_168 : seek pp59 168 = p59_168 := sk59_168
set_option maxRecDepth 100000 in
theorem sq59_178 : seek pp59 178 = p59_178 := sk59_178
set_option maxRecDepth 100000 in
theorem sq59_184 : seek pp59 184 = p59_184 := sk59_184
set_option maxRecDepth 100000 in
theorem sq59_7 : seek pp59 7 = (7, false, 5, 0, 0, 20, 0) :: (10, false, 1, 0, 2, 0, 0) :: (11, false, 0, 1, 0, 0, 0) :: (12, false, 0, 9, 0, 0, 0) :: (14, false, 24, 0, 48, 3, 903) :: (17, false, 5, 0, 1, 27, 0) :: p59_20 := rfl
set_option maxRecDepth 100000 in
theorem sq59_17 : seek pp59 17 = (17, false, 5, 0, 1, 27, 0) :: p59_20 := rfl
set_option maxRecDepth 100000 in
theorem sq59_26 : seek pp59 26 = (26, false, 25, 0, 0, 0, 0) :: p59_27 := rfl
set_option maxRecDepth 100000 in
theorem sq59_31 : seek pp59 31 = (31, false, 34, 0, 0, 0, 0) :: (32, false, 8, 0, 11, 0, 816) :: (35, false, 0, 0, 0, 0, 0) :: (36, false, 1, 0, 1, 0, 0) :: (37, false, 13, 0, 0, 0, 0) :: (38, false, 34, 0, 0, 0, 0) :: (39, false, 8, 0, 11, 0, 816) :: (42, false, 0, 1, 0, 0, 0) :: (43, false, 1, 0, 2, 0, 0) :: (44, false, 13, 0, 0, 0, 0) :: (45, false, 0, 0, 0, 0, 0) :: (46, false, 2, 0, 3, 0, 0) :: p59_47 := rfl
set_option maxRecDepth 100000 in
theorem sq59_58 : seek pp59 58 = (58, false, 5, 0, 1, 68, 0) :: (61, false, 34, 0, 0, 0, 0) :: (62, false, 1, 0, 3, 0, 0) :: (63, false, 0, (-1), 0, 0, 0) :: (64, false, 0, 0, 0, 0, 0) :: (65, false, 32, 11, 58, 4, 915) :: p59_68 := rfl
set_option maxRecDepth 100000 in
theorem sq59_114 : seek pp59 114 = (114, false, 5, 0, 0, 178, 0) :: (117, false, 0, 0, 0, 0, 0) :: (118, false, 2, 0, 5, 0, 0) :: p59_120 := rfl
set_option maxRecDepth 100000 in
theorem sq59_188 : seek pp59 188 = (188, false, 34, 0, 0, 0, 0) :: (189, false, 8, 0, 11, 0, 816) :: (192, false, 0, 2, 0, 0, 0) :: (193, false, 12, 0, 0, 0, 0) :: (194, false, 4, 0, 0, 0, 0) :: (195, false, 25, 0, 0, 0, 0) :: [] := rfl
def pp60 : List EN := p60_0
theorem sq60_0 : seek pp60 0 = p60_0 := sk60_0
theorem sq60_2 : seek pp60 2 = p60_2 := sk60_2
theorem sq60_30 : seek pp60 30 = p60_30 := sk60_30
theorem sq60_36 : seek pp60 36 = p60_36 := sk60_36
def pp61 : List EN := p61_0
theorem sq61_0 : seek pp61 0 = p61_0 := sk61_0
theorem sq61_30 : seek pp61 30 = p61_30 := sk61_30
theorem sq61_39 : seek pp61 39 = p61_39 := sk61_39
theorem sq61_40 : seek pp61 40 = p61_40 := sk61_40
theorem sq61_46 : seek pp61 46 = p61_46 := sk61_46
theorem sq61_53 : seek pp61 53 = p61_53 := sk61_53
theorem sq61_70 : seek pp61 70 = p61_70 := sk61_70
theorem sq61_77 : seek pp61 77 = p61_77 := sk61_77
theorem sq61_98 : seek pp61 98 = p61_98 := sk61_98
set_option maxRecDepth 100000 in
theorem sq61_5 : seek pp61 5 = (5, false, 5, 0, 0, 46, 0) :: (8, false, 1, 0, 2, 0, 0) :: (9, false, 0, 0, 0, 0, 0) :: (10, false, 0, 4, 0, 0, 0) :: (11, false, 24, 0, 48, 3, 903) :: (14, false, 5, 0, 0, 46, 0) :: (17, false, 1, 0, 3, 0, 0) :: (18, false, 0, 0, 0, 0, 0) :: (19, false, 1, 0, 2, 0, 0) :: (20, false, 24, 0, 53, 1, 931) :: (23, false, 5, 0, 0, 30, 0) :: (26, false, 0, 1, 0, 0, 0) :: (27, false, 7, 0, 0, 40, 0) :: p61_30 := rfl
set_option maxRecDepth 100000 in
theorem sq61_14 : seek pp61 14 = (14, false, 5, 0, 0, 46, 0) :: (17, false, 1, 0, 3, 0, 0) :: (18, false, 0, 0, 0, 0, 0) :: (19, false, 1, 0, 2, 0, 0) :: (20, false, 24, 0, 53, 1, 931) :: (23, false, 5, 0, 0, 30, 0) :: (26, false, 0, 1, 0, 0, 0) :: (27, false, 7, 0, 0, 40, 0) :: p61_30 := rfl
set_option maxRecDepth 100000 in
theorem sq61_23 : seek pp61 23 = (23, false, 5, 0, 0, 30, 0) :: (26, false, 0, 1, 0, 0, 0) :: (27, false, 7, 0, 0, 40, 0) :: p61_30 := rfl
set_option maxRecDepth 100000 in
theorem sq61_43 : seek pp61 43 = (43, false, 5, 0, 1, 53, 0) :: p61_46 := rfl
set_option maxRecDepth 100000 in
theorem sq61_52 : seek pp61 52 = (52, false, 25, 0, 0, 0, 0) :: p61_53 := rfl
set_option maxRecDepth 100000 in
theorem sq61_58 : seek pp61 58 = (58, false, 0, (-1), 0, 0, 0) :: (59, false, 6, 0, 1, 70, 0) :: (62, false, 34, 0, 0, 0, 0) :: (63, false, 1, 0, 1, 0, 0) :: (64, false, 32, 11, 60, 2, 934) :: (67, false, 5, 0, 2, 77, 0) :: p61_70 := rfl
set_option maxRecDepth 100000 in
theorem sq61_67 : seek pp61 67 = (67, false, 5, 0, 2, 77, 0) :: p61_70 := rfl
set_option maxRecDepth 100000 in
theorem sq61_76 : seek pp61 76 = (76, false, 25, 0, 0, 0, 0) :: p61_77 := rfl
set_option maxRecDepth 100000 in
theorem sq61_86 : seek pp61 86 = (86, false, 0, 10, 0, 0, 0) :: (88, false, 6, 0, 1, 98, 0) :: (91, false, 34, 0, 0, 0, 0) :: (92, false, 0, (-100005), 0, 0, 943) :: (94, false, 32, 11, 47, 2, 895) :: (97, false, 25, 0, 0, 0, 0) :: p61_98 := rfl
set_option maxRecDepth 100000 in
theorem sq61_97 : seek pp61 97 = (97, false, 25, 0, 0, 0, 0) :: p61_98 := rfl
set_option maxRecDepth 100000 in
theorem sq61_102 : seek pp61 102 = (102, false, 34, 0, 0, 0, 0) :: (103, false, 1, 0, 1, 0, 0) :: (104, false, 1, 0, 2, 0, 0) :: (105, false, 1, 0, 3, 0, 0) :: (106, false, 32, 11, 58, 4, 915) :: (109, false, 34, 0, 0, 0, 0) :: (110, false, 32, 11, 56, 1, 919) :: (113, false, 25, 0, 0, 0, 0) :: [] := rfl
set_option maxRecDepth 100000 in
theorem sq61_109 : seek pp61 109 = (109, false, 34, 0, 0, 0, 0) :: (110, false, 32, 11, 56, 1, 919) :: (113, false, 25, 0, 0, 0, 0) :: [] := rfl
set_option maxRecDepth 100000 in
theorem sq61_113 : seek pp61 113 = (113, false, 25, 0, 0, 0, 0) :: [] := rfl
def pp62 : List EN := p62_0
theorem sq62_0 : seek pp62 0 = p62_0 := sk62_0
theorem sq62_15 : seek pp62 15 = p62_15 := sk62_15
theorem sq62_33 : seek pp62 33 = p62_33 := sk62_33
set_option maxRecDepth 100000 in
theorem sq62_5 : seek pp62 5 = (5, false, 5, 0, 1, 15, 0) :: (8, false, 34, 0, 0, 0, 0) :: (9, false, 0, (-100001), 0, 0, 906) :: (11, false, 32, 11, 47, 2, 895) :: (14, false, 25, 0, 0, 0, 0) :: p62_15 := rfl
set_option maxRecDepth 100000 in
theorem sq62_14 : seek pp62 14 = (14, false, 25, 0, 0, 0, 0) :: p62_15 := rfl
set_option maxRecDepth 100000 in
theorem sq62_20 : seek pp62 20 = (20, false, 2, 0, 2, 0, 0) :: (21, false, 1, 0, 2, 0, 0) :: (22, false, 0, (-1), 0, 0, 0) :: (23, false, 6, 0, 1, 33, 0) :: (26, false, 34, 0, 0, 0, 0) :: (27, false, 0, (-100006), 0, 0, 894) :: (29, false, 32, 11, 47, 2, 895) :: (32, false, 25, 0, 0, 0, 0) :: p62_33 := rfl
set_option maxRecDepth 100000 in
theorem sq62_32 : seek pp62 32 = (32, false, 25, 0, 0, 0, 0) :: p62_33 := rfl
set_option maxRecDepth 100000 in
theorem sq62_37 : seek pp62 37 = (37, false, 34, 0, 0, 0, 0) :: (38, false, 1, 0, 1, 0, 0) :: (39, false, 0, (-1), 0, 0, 0) :: (40, false, 0, 0, 0, 0, 0) :: (41, false, 32, 11, 58, 4, 915) :: (44, false, 1, 0, 2, 0, 0) :: (45, false, 25, 0, 0, 0, 0) :: [] := rfl
set_option maxRecDepth 100000 in
theorem sq62_44 : seek pp62 44 = (44, false, 1, 0, 2, 0, 0) :: (45, false, 25, 0, 0, 0, 0) :: [] := rfl
def pp63 : List EN := p63_0
theorem sq63_0 : seek pp63 0 = p63_0 := sk63_0
theorem sq63_17 : seek pp63 17 = p63_17 := sk63_17
theorem sq63_24 : seek pp63 24 = p63_24 := sk63_24
theorem sq63_42 : seek pp63 42 = p63_42 := sk63_42
theorem sq63_63 : seek pp63 63 = p63_63 := sk63_63
theorem sq63_67 : seek pp63 67 = p63_67 := sk63_67
theorem sq63_73 : seek pp63 73 = p63_73 := sk63_73
set_option maxRecDepth 100000 in
theorem sq63_5 : seek pp63 5 = (5, false, 5, 0, 0, 17, 0) :: (8, false, 1, 0, 2, 0, 0) :: (9, false, 0, 0, 0, 0, 0) :: (10, false, 0, 4, 0, 0, 0) :: (11, false, 24, 0, 48, 3, 903) :: (14, false, 5, 0, 1, 24, 0) :: p63_17 := rfl
set_option maxRecDepth 100000 in
theorem sq63_14 : seek pp63 14 = (14, false, 5, 0, 1, 24, 0) :: p63_17 := rfl
set_option maxRecDepth 100000 in
theorem sq63_23 : seek pp63 23 = (23, false, 25, 0, 0, 0, 0) :: p63_24 := rfl
set_option maxRecDepth 100000 in
theorem sq63_29 : seek pp63 29 = (29, false, 2, 0, 3, 0, 0) :: (30, false, 1, 0, 3, 0, 0) :: (31, false, 0, (-1), 0, 0, 0) :: (32, false, 6, 0, 1, 42, 0) :: (35, false, 34, 0, 0, 0, 0) :: (36, false, 0, (-100006), 0, 0, 894) :: (38, false, 32, 11, 47, 2, 895) :: (41, false, 25, 0, 0, 0, 0) :: p63_42 := rfl
set_option maxRecDepth 100000 in
theorem sq63_41 : seek pp63 41 = (41, false, 25, 0, 0, 0, 0) :: p63_42 := rfl
set_option maxRecDepth 100000 in
theorem sq63_60 : seek pp63 60 = (60, false, 5, 0, 0, 67, 0) :: p63_63 := rfl
def pp64 : List EN := p64_0
theorem sq64_0 : seek pp64 0 = p64_0 := sk64_0
theorem sq64_17 : seek pp64 17 = p64_17 := sk64_17
theorem sq64_24 : seek pp64 24 = p64_24 := sk64_24
theorem sq64_36 : seek pp64 36 = p64_36 := sk64_36
theorem sq64_53 : seek pp64 53 = p64_53 := sk64_53
theorem sq64_71 : seek pp64 71 = p64_71 := sk64_71
theorem sq64_76 : seek pp64 76 = p64_76 := sk64_76
set_option maxRecDepth 100000 in
theorem sq64_5 : seek pp64 5 = (5, false, 5, 0, 0, 17, 0) :: (8, false, 1, 0, 2, 0, 0) :: (9, false, 0, 0, 0, 0, 0) :: (10, false, 0, 3, 0, 0, 0) :: (11, false, 24, 0, 48, 3, 903) :: (14, false, 5, 0, 1, 24, 0) :: p64_17 := rfl
set_option maxRecDepth 100000 in
theorem sq64_14 : seek pp64 14 = (14, false, 5, 0, 1, 24, 0) :: p64_17 := rfl
set_option maxRecDepth 100000 in
theorem sq64_23 : seek pp64 23 = (23, false, 25, 0, 0, 0, 0) :: p64_24 := rfl
set_option maxRecDepth 100000 in
theorem sq64_33 : seek pp64 33 = (33, false, 7, 0, 0, 76, 0) :: p64_36 := rfl
def pp65 : List EN := p65_0
theorem sq65_0 : seek pp65 0 = p65_0 := sk65_0
theorem sq65_15 : seek pp65 15 = p65_15 := sk65_15
theorem sq65_31 : seek pp65 31 = p65_31 := sk65_31
theorem sq65_49 : seek pp65 49 = p65_49 := sk65_49
set_option maxRecDepth 100000 in
theorem sq65_5 : seek pp65 5 = (5, false, 5, 0, 1, 15, 0) :: (8, false, 34, 0, 0, 0, 0) :: (9, false, 0, (-100001), 0, 0, 906) :: (11, false, 32, 11, 47, 2, 895) :: (14, false, 25, 0, 0, 0, 0) :: p65_15 := rfl
set_option maxRecDepth 100000 in
theorem sq65_14 : seek pp65 14 = (14, false, 25, 0, 0, 0, 0) :: p65_15 := rfl
set_option maxRecDepth 100000 in
theorem sq65_20 : seek pp65 20 = (20, false, 0, (-1), 0, 0, 0) :: (21, false, 6, 0, 1, 31, 0) :: (24, false, 34, 0, 0, 0, 0) :: (25, false, 0, (-100006), 0, 0, 894) :: (27, false, 32, 11, 47, 2, 895) :: (30, false, 25, 0, 0, 0, 0) :: p65_31 := rfl
set_option maxRecDepth 100000 in
theorem sq65_30 : seek pp65 30 = (30, false, 25, 0, 0, 0, 0) :: p65_31 := rfl
set_option maxRecDepth 100000 in
theorem sq65_36 : seek pp65 36 = (36, false, 24, 0, 53, 1, 931) :: (39, false, 5, 0, 1, 49, 0) :: (42, false, 34, 0, 0, 0, 0) :: (43, false, 0, (-100004), 0, 0, 952) :: (45, false, 32, 11, 47, 2, 895) :: (48, false, 25, 0, 0, 0, 0) :: p65_49 := rfl
set_option maxRecDepth 100000 in
theorem sq65_39 : seek pp65 39 = (39, false, 5, 0, 1, 49, 0) :: (42, false, 34, 0, 0, 0, 0) :: (43, false, 0, (-100004), 0, 0, 952) :: (45, false, 32, 11, 47, 2, 895) :: (48, false, 25, 0, 0, 0, 0) :: p65_49 := rfl
set_option maxRecDepth 100000 in
theorem sq65_48 : seek pp65 48 = (48, false, 25, 0, 0, 0, 0) :: p65_49 := rfl
set_option maxRecDepth 100000 in
theorem sq65_53 : seek pp65 53 = (53, false, 34, 0, 0, 0, 0) :: (54, false, 8, 0, 11, 0, 816) :: (57, false, 0, 85, 0, 0, 0) :: (59, false, 1, 0, 1, 0, 0) :: (60, false, 4, 0, 0, 0, 0) :: (61, false, 0, 1, 0, 0, 0) :: (62, false, 34, 0, 0, 0, 0) :: (63, false, 8, 0, 11, 0, 816) :: (66, false, 0, 85, 0, 0, 0) :: (68, false, 1, 0, 1, 0, 0) :: (69, false, 4, 0, 0, 0, 0) :: (70, false, 12, 0, 0, 0, 0) :: (71, false, 4, 0, 1, 0, 0) :: (72, false, 13, 0, 0, 0, 0) :: (73, false, 34, 0, 0, 0, 0) :: (74, false, 8, 0, 11, 0, 816) :: (77, false, 0, 85, 0, 0, 0) :: (79, false, 1, 0, 1, 0, 0) :: (80, false, 4, 0, 0, 0, 0) :: (81, false, 12, 0, 0, 0, 0) :: (82, false, 25, 0, 0, 0, 0) :: [] := rfl
def pp66 : List EN := p66_0
theorem sq66_0 : seek pp66 0 = p66_0 := sk66_0
theorem sq66_15 : seek pp66 15 = p66_15 := sk66_15
theorem sq66_31 : seek pp66 31 = p66_31 := sk66_31
theorem sq66_47 : seek pp66 47 = p66_47 := sk66_47
set_option maxRecDepth 100000 in
theorem sq66_5 : seek pp66 5 = (5, false, 5, 0, 1, 15, 0) :: (8, false, 34, 0, 0, 0, 0) :: (9, false, 0, (-100001), 0, 0, 906) :: (11, false, 32, 11, 47, 2, 895) :: (14, false, 25, 0, 0, 0, 0) :: p66_15 := rfl
set_option maxRecDepth 100000 in
theorem sq66_14 : seek pp66 14 = (14, false, 25, 0, 0, 0, 0) :: p66_15 := rfl
set_option maxRecDepth 100000 in
theorem sq66_20 : seek pp66 20 = (20, false, 0, (-1), 0, 0, 0) :: (21, false, 6, 0, 1, 31, 0) :: (24, false, 34, 0, 0, 0, 0) :: (25, false, 0, (-100006), 0, 0, 894) :: (27, false, 32, 11, 47, 2, 895) :: (30, false, 25, 0, 0, 0, 0) :: p66_31 := rfl
set_option maxRecDepth 100000 in
theorem sq66_30 : seek pp66 30 = (30, false, 25, 0, 0, 0, 0) :: p66_31 := rfl
set_option maxRecDepth 100000 in
theorem sq66_36 : seek pp66 36 = (36, false, 0, 3, 0, 0, 0) :: (37, false, 6, 0, 0, 47, 0) :: (40, false, 34, 0, 0, 0, 0) :: (41, false, 0, (-100004), 0, 0, 952) :: (43, false, 32, 11, 47, 2, 895) :: (46, false, 25, 0, 0, 0, 0) :: p66_47 := rfl
set_option maxRecDepth 100000 in
theorem sq66_46 : seek pp66 46 = (46, false, 25, 0, 0, 0, 0) :: p66_47 := rfl
set_option maxRecDepth 100000 in
theorem sq66_51 : seek pp66 51 = (51, false, 34, 0, 0, 0, 0) :: (52, false, 8, 0, 11, 0, 816) :: (55, false, 0, 166, 0, 0, 0) :: (58, false, 1, 0, 1, 0, 0) :: (59, false, 4, 0, 0, 0, 0) :: (60, false, 12, 0, 0, 0, 0) :: (61, false, 2, 0, 2, 0, 0) :: (62, false, 34, 0, 0, 0, 0) :: (63, false, 8, 0, 11, 0, 816) :: (66, false, 0, 166, 0, 0, 0) :: (69, false, 1, 0, 1, 0, 0) :: (70, false, 4, 0, 0, 0, 0) :: (71, false, 0, 0, 0, 0, 0) :: (72, false, 13, 0, 0, 0, 0) :: (73, false, 1, 0, 2, 0, 0) :: (74, false, 25, 0, 0, 0, 0) :: [] := rfl
def pp67 : List EN := p67_0
theorem sq67_0 : seek pp67 0 = p67_0 := sk67_0
theorem sq67_12 : seek pp67 12 = p67_12 := sk67_12
theorem sq67_21 : seek pp67 21 = p67_21 := sk67_21
theorem sq67_22 : seek pp67 22 = p67_22 := sk67_22
theorem sq67_37 : seek pp67 37 = p67_37 := sk67_37
theorem sq67_46 : seek pp67 46 = p67_46 := sk67_46
theorem sq67_47 : seek pp67 47 = p67_47 := sk67_47
theorem sq67_93 : seek pp67 93 = p67_93 := sk67_93
theorem sq67_94 : seek pp67 94 = p67_94 := sk67_94
set_option maxRecDepth 100000 in
theorem sq67_63 : seek pp67 63 = (63, false, 5, 0, 0, 93, 0) :: (66, false, 1, 0, 4, 0, 0) :: (68, false, 0, 0, 0, 0, 0) :: (69, false, 34, 0, 0, 0, 0) :: (70, false, 8, 0, 11, 0, 816) :: (73, false, 0, 1, 0, 0, 0) :: (74, false, 12, 0, 0, 0, 0) :: (75, false, 0, 1, 0, 0, 0) :: (76, false, 4, 0, 1, 0, 0) :: (77, false, 24, 0, 48, 3, 903) :: (80, false, 5, 0, 0, 93, 0) :: (83, false, 0, 9, 0, 0, 0) :: (85, false, 1, 0, 4, 0, 0) :: (87, false, 4, 0, 2, 0, 0) :: (88, false, 1, 0, 3, 0, 0) :: (89, false, 4, 0, 0, 0, 0) :: (90, false, 7, 0, 0, 94, 0) :: p67_93 := rfl
set_option maxRecDepth 100000 in
theorem sq67_80 : seek pp67 80 = (80, false, 5, 0, 0, 93, 0) :: (83, false, 0, 9, 0, 0, 0) :: (85, false, 1, 0, 4, 0, 0) :: (87, false, 4, 0, 2, 0, 0) :: (88, false, 1, 0, 3, 0, 0) :: (89, false, 4, 0, 0, 0, 0) :: (90, false, 7, 0, 0, 94, 0) :: p67_93 := rfl
def pp68 : List EN := p68_0
theorem sq68_0 : seek pp68 0 = p68_0 := sk68_0
theorem sq68_30 : seek pp68 30 = p68_30 := sk68_30
theorem sq68_34 : seek pp68 34 = p68_34 := sk68_34
theorem sq68_35 : seek pp68 35 = p68_35 := sk68_35
set_option maxRecDepth 100000 in
theorem sq68_5 : seek pp68 5 = (5, false, 5, 0, 0, 30, 0) :: (8, false, 34, 0, 0, 0, 0) :: (9, false, 1, 0, 1, 0, 0) :: (10, false, 32, 11, 52, 2, 923) :: (13, false, 0, 3, 0, 0, 0) :: (14, false, 6, 0, 1, 34, 0) :: (17, false, 34, 0, 0, 0, 0) :: (18, false, 8, 0, 11, 0, 816) :: (21, false, 0, 166, 0, 0, 0) :: (24, false, 1, 0, 1, 0, 0) :: (25, false, 4, 0, 0, 0, 0) :: (26, false, 12, 0, 0, 0, 0) :: (27, false, 5, 0, 1, 34, 0) :: p68_30 := rfl
set_option maxRecDepth 100000 in
theorem sq68_13 : seek pp68 13 = (13, false, 0, 3, 0, 0, 0) :: (14, false, 6, 0, 1, 34, 0) :: (17, false, 34, 0, 0, 0, 0) :: (18, false, 8, 0, 11, 0, 816) :: (21, false, 0, 166, 0, 0, 0) :: (24, false, 1, 0, 1, 0, 0) :: (25, false, 4, 0, 0, 0, 0) :: (26, false, 12, 0, 0, 0, 0) :: (27, false, 5, 0, 1, 34, 0) :: p68_30 := rfl
def pp69 : List EN := p69_0
theorem sq69_0 : seek pp69 0 = p69_0 := sk69_0
theorem sq69_10 : seek pp69 10 = p69_10 := sk69_10
theorem sq69_21 : seek pp69 21 = p69_21 := sk69_21
theorem sq69_24 : seek pp69 24 = p69_24 := sk69_24
def pp70 : List EN := p70_0
theorem sq70_0 : seek pp70 0 = p70_0 := sk70_0
theorem sq70_23 : seek pp70 23 = p70_23 := sk70_23
theorem sq70_25 : seek pp70 25 = p70_25 := sk70_25
theorem sq70_57 : seek pp70 57 = p70_57 := sk70_57
theorem sq70_60 : seek pp70 60 = p70_60 := sk70_60
set_option maxRecDepth 100000 in
theorem sq70_10 : seek pp70 10 = (10, false, 2, 0, 2, 0, 0) :: (11, false, 1, 0, 2, 0, 0) :: (12, false, 5, 0, 2, 23, 0) :: (15, false, 34, 0, 0, 0, 0) :: (16, false, 1, 0, 2, 0, 0) :: (17, false, 32, 11, 68, 2, 984) :: (20, false, 5, 0, 0, 25, 0) :: p70_23 := rfl
set_option maxRecDepth 100000 in
theorem sq70_20 : seek pp70 20 = (20, false, 5, 0, 0, 25, 0) :: p70_23 := rfl
set_option maxRecDepth 100000 in
theorem sq70_33 : seek pp70 33 = (33, false, 24, 0, 53, 1, 931) :: (36, false, 5, 0, 0, 57, 0) :: (39, false, 1, 0, 1, 0, 0) :: (40, false, 0, 4, 0, 0, 0) :: (41, false, 4, 0, 4, 0, 0) :: (42, false, 34, 0, 0, 0, 0) :: (43, false, 8, 0, 11, 0, 816) :: (46, false, 0, 85, 0, 0, 0) :: (48, false, 1, 0, 2, 0, 0) :: (49, false, 4, 0, 0, 0, 0) :: (50, false, 12, 0, 0, 0, 0) :: (51, false, 24, 0, 69, 2, 988) :: (54, false, 7, 0, 0, 60, 0) :: p70_57 := rfl
set_option maxRecDepth 100000 in
theorem sq70_36 : seek pp70 36 = (36, false, 5, 0, 0, 57, 0) :: (39, false, 1, 0, 1, 0, 0) :: (40, false, 0, 4, 0, 0, 0) :: (41, false, 4, 0, 4, 0, 0) :: (42, false, 34, 0, 0, 0, 0) :: (43, false, 8, 0, 11, 0, 816) :: (46, false, 0, 85, 0, 0, 0) :: (48, false, 1, 0, 2, 0, 0) :: (49, false, 4, 0, 0, 0, 0) :: (50, false, 12, 0, 0, 0, 0) :: (51, false, 24, 0, 69, 2, 988) :: (54, false, 7, 0, 0, 60, 0) :: p70_57 := rfl
set_option maxRecDepth 100000 in
theorem sq70_54 : seek pp70 54 = (54, false, 7, 0, 0, 60, 0) :: p70_57 := rfl
def pp71 : List EN := p71_0
theorem sq71_0 : seek pp71 0 = p71_0 := sk71_0
theorem sq71_7 : seek pp71 7 = p71_7 := sk71_7
theorem sq71_42 : seek pp71 42 = p71_42 := sk71_42
theorem sq71_52 : seek pp71 52 = p71_52 := sk71_52
theorem sq71_53 : seek pp71 53 = p71_53 := sk71_53
set_option maxRecDepth 100000 in
theorem sq71_32 : seek pp71 32 = (32, false, 2, 0, 2, 0, 0) :: (33, false, 1, 0, 2, 0, 0) :: (34, false, 5, 0, 2, 42, 0) :: (37, false, 1, 0, 2, 0, 0) :: (38, false, 1, 0, 1, 0, 0) :: (39, false, 6, 0, 1, 7, 0) :: p71_42 := rfl
def pp72 : List EN := p72_0
theorem sq72_0 : seek pp72 0 = p72_0 := sk72_0
theorem sq72_15 : seek pp72 15 = p72_15 := sk72_15
theorem sq72_22 : seek pp72 22 = p72_22 := sk72_22
set_option maxRecDepth 100000 in
theorem sq72_5 : seek pp72 5 = (5, false, 5, 0, 0, 15, 0) :: (8, false, 1, 0, 2, 0, 0) :: (9, false, 24, 0, 50, 1, 969) :: (12, false, 5, 0, 1, 22, 0) :: p72_15 := rfl
set_option maxRecDepth 100000 in
theorem sq72_12 : seek pp72 12 = (12, false, 5, 0, 1, 22, 0) :: p72_15 := rfl
set_option maxRecDepth 100000 in
theorem sq72_21 : seek pp72 21 = (21, false, 25, 0, 0, 0, 0) :: p72_22 := rfl
set_option maxRecDepth 100000 in
theorem sq72_31 : seek pp72 31 = (31, false, 34, 0, 0, 0, 0) :: (32, false, 8, 0, 11, 7, 823) :: (35, false, 25, 0, 0, 0, 0) :: [] := rfl
def pp73 : List EN := p73_0
theorem sq73_0 : seek pp73 0 = p73_0 := sk73_0
theorem sq73_19 : seek pp73 19 = p73_19 := sk73_19
theorem sq73_26 : seek pp73 26 = p73_26 := sk73_26
theorem sq73_52 : seek pp73 52 = p73_52 := sk73_52
theorem sq73_58 : seek pp73 58 = p73_58 := sk73_58
set_option maxRecDepth 100000 in
theorem sq73_5 : seek pp73 5 = (5, false, 5, 0, 0, 19, 0) :: (8, false, 1, 0, 2, 0, 0) :: (9, false, 24, 0, 50, 1, 969) :: (12, false, 5, 0, 0, 19, 0) :: (15, false, 1, 0, 3, 0, 0) :: (16, false, 5, 0, 3, 26, 0) :: p73_19 := rfl
set_option maxRecDepth 100000 in
theorem sq73_12 : seek pp73 12 = (12, false, 5, 0, 0, 19, 0) :: (15, false, 1, 0, 3, 0, 0) :: (16, false, 5, 0, 3, 26, 0) :: p73_19 := rfl
set_option maxRecDepth 100000 in
theorem sq73_25 : seek pp73 25 = (25, false, 25, 0, 0, 0, 0) :: p73_26 := rfl
set_option maxRecDepth 100000 in
theorem sq73_35 : seek pp73 35 = (35, false, 1, 0, 3, 0, 0) :: (36, false, 34, 0, 0, 0, 0) :: (37, false, 8, 0, 11, 7, 823) :: (40, false, 6, 0, 3, 52, 0) :: (43, false, 34, 0, 0, 0, 0) :: (44, false, 8, 0, 11, 8, 824) :: (47, false, 1, 0, 3, 0, 0) :: (48, false, 12, 0, 0, 0, 0) :: (49, false, 7, 0, 0, 58, 0) :: p73_52 := rfl
def pp74 : List EN := p74_0
theorem sq74_0 : seek pp74 0 = p74_0 := sk74_0
theorem sq74_15 : seek pp74 15 = p74_15 := sk74_15
theorem sq74_22 : seek pp74 22 = p74_22 := sk74_22
theorem sq74_42 : seek pp74 42 = p74_42 := sk74_42
theorem sq74_43 : seek pp74 43 = p74_43 := sk74_43
set_option maxRecDepth 100000 in
theorem sq74_5 : seek pp74 5 = (5, false, 5, 0, 0, 15, 0) :: (8, false, 1, 0, 2, 0, 0) :: (9, false, 24, 0, 50, 1, 969) :: (12, false, 5, 0, 1, 22, 0) :: p74_15 := rfl
set_option maxRecDepth 100000 in
theorem sq74_12 : seek pp74 12 = (12, false, 5, 0, 1, 22, 0) :: p74_15 := rfl
set_option maxRecDepth 100000 in
theorem sq74_21 : seek pp74 21 = (21, false, 25, 0, 0, 0, 0) :: p74_22 := rfl
set_option maxRecDepth 100000 in
theorem sq74_31 : seek pp74 31 = (31, false, 34, 0, 0, 0, 0) :: (32, false, 8, 0, 11, 9, 825) :: (35, false, 5, 0, 0, 42, 0) :: (38, false, 0, 1, 0, 0, 0) :: (39, false, 7, 0, 0, 43, 0) :: p74_42 := rfl
def pp75 : List EN := p75_0
theorem sq75_0 : seek pp75 0 = p75_0 := sk75_0
theorem sq75_2 : seek pp75 2 = p75_2 := sk75_2
theorem sq75_38 : seek pp75 38 = p75_38 := sk75_38
theorem sq75_57 : seek pp75 57 = p75_57 := sk75_57
theorem sq75_125 : seek pp75 125 = p75_125 := sk75_125
theorem sq75_126 : seek pp75 126 = p75_126 := sk75_126
theorem sq75_130 : seek pp75 130 = p75_130 := sk75_130
set_option maxRecDepth 100000 in
theorem sq75_158 : seek pp75 158 = p75_158 := sk75_158
set_option maxRecDepth 100000 in
theorem sq75_169 : seek pp75 169 = p75_169 := sk75_169
set_option maxRecDepth 100000 in
theorem sq75_197 : seek pp75 197 = p75_197 := sk75_197
set_option maxRecDepth 100000 in
theorem sq75_200 : seek pp75 200 = p75_200 := sk75_200
set_option maxRecDepth 100000 in
theorem sq75_94 : seek pp75 94 = (94, false, 2, 0, 3, 0, 0) :: (95, false, 1, 0, 3, 0, 0) :: (96, false, 5, 0, 2, 130, 0) :: (99, false, 34, 0, 0, 0, 0) :: (100, false, 1, 0, 3, 0, 0) :: (101, false, 32, 11, 68, 2, 984) :: (104, false, 5, 0, 0, 130, 0) :: (107, false, 34, 0, 0, 0, 0) :: (108, false, 8, 0, 11, 12, 828) :: (111, false, 1, 0, 3, 0, 0) :: (112, false, 34, 0, 0, 0, 0) :: (113, false, 1, 0, 3, 0, 0) :: (114, false, 32, 11, 52, 2, 923) :: (117, false, 0, 3, 0, 0, 0) :: (118, false, 6, 0, 1, 125, 0) :: (121, false, 0, 1, 0, 0, 0) :: (122, false, 7, 0, 0, 126, 0) :: p75_125 := rfl
set_option maxRecDepth 100000 in
theorem sq75_104 : seek pp75 104 = (104, false, 5, 0, 0, 130, 0) :: (107, false, 34, 0, 0, 0, 0) :: (108, false, 8, 0, 11, 12, 828) :: (111, false, 1, 0, 3, 0, 0) :: (112, false, 34, 0, 0, 0, 0) :: (113, false, 1, 0, 3, 0, 0) :: (114, false, 32, 11, 52, 2, 923) :: (117, false, 0, 3, 0, 0, 0) :: (118, false, 6, 0, 1, 125, 0) :: (121, false, 0, 1, 0, 0, 0) :: (122, false, 7, 0, 0, 126, 0) :: p75_125 := rfl
set_option maxRecDepth 100000 in
theorem sq75_117 : seek pp75 117 = (117, false, 0, 3, 0, 0, 0) :: (118, false, 6, 0, 1, 125, 0) :: (121, false, 0, 1, 0, 0, 0) :: (122, false, 7, 0, 0, 126, 0) :: p75_125 := rfl
set_option maxRecDepth 100000 in
theorem sq75_139 : seek pp75 139 = (139, false, 24, 0, 53, 1, 931) :: (142, false, 2, 0, 4, 0, 0) :: (144, false, 1, 0, 4, 0, 0) :: (146, false, 5, 0, 0, 158, 0) :: (149, false, 34, 0, 0, 0, 0) :: (150, false, 1, 0, 3, 0, 0) :: (151, false, 32, 11, 52, 2, 923) :: (154, false, 0, 2, 0, 0, 0) :: (155, false, 6, 0, 1, 169, 0) :: p75_158 := rfl
set_option maxRecDepth 100000 in
theorem sq75_142 : seek pp75 142 = (142, false, 2, 0, 4, 0, 0) :: (144, false, 1, 0, 4, 0, 0) :: (146, false, 5, 0, 0, 158, 0) :: (149, false, 34, 0, 0, 0, 0) :: (150, false, 1, 0, 3, 0, 0) :: (151, false, 32, 11, 52, 2, 923) :: (154, false, 0, 2, 0, 0, 0) :: (155, false, 6, 0, 1, 169, 0) :: p75_158 := rfl
set_option maxRecDepth 100000 in
theorem sq75_154 : seek pp75 154 = (154, false, 0, 2, 0, 0, 0) :: (155, false, 6, 0, 1, 169, 0) :: p75_158 := rfl
set_option maxRecDepth 100000 in
theorem sq75_193 : seek pp75 193 = (193, false, 4, 0, 0, 0, 0) :: (194, false, 32, 11, 76, 2, 1007) :: p75_197 := rfl
def pp76 : List EN := p76_0
theorem sq76_0 : seek pp76 0 = p76_0 := sk76_0
theorem sq76_43 : seek pp76 43 = p76_43 := sk76_43
def pp77 : List EN := p77_0
theorem sq77_0 : seek pp77 0 = p77_0 := sk77_0
theorem sq77_50 : seek pp77 50 = p77_50 := sk77_50
theorem sq77_54 : seek pp77 54 = p77_54 := sk77_54
theorem sq77_55 : seek pp77 55 = p77_55 := sk77_55
def pp78 : List EN := p78_0
theorem sq78_0 : seek pp78 0 = p78_0 := sk78_0
theorem sq78_50 : seek pp78 50 = p78_50 := sk78_50
theorem sq78_54 : seek pp78 54 = p78_54 := sk78_54
theorem sq78_55 : seek pp78 55 = p78_55 := sk78_55
def pp79 : List EN := p79_0
theorem sq79_0 : seek pp79 0 = p79_0 := sk79_0
theorem sq79_15 : seek pp79 15 = p79_15 := sk79_15
theorem sq79_22 : seek pp79 22 = p79_22 := sk79_22
theorem sq79_37 : seek pp79 37 = p79_37 := sk79_37
theorem sq79_50 : seek pp79 50 = p79_50 := sk79_50
theorem sq79_77 : seek pp79 77 = p79_77 := sk79_77
theorem sq79_78 : seek pp79 78 = p79_78 := sk79_78
theorem sq79_87 : seek pp79 87 = p79_87 := sk79_87
theorem sq79_98 : seek pp79 98 = p79_98 := sk79_98
theorem sq79_107 : seek pp79 107 = p79_107 := sk79_107
theorem sq79_108 : seek pp79 108 = p79_108 := sk79_108
theorem sq79_117 : seek pp79 117 = p79_117 := sk79_117
set_option maxRecDepth 100000 in
theorem sq79_5 : seek pp79 5 = (5, false, 5, 0, 0, 15, 0) :: (8, false, 1, 0, 2, 0, 0) :: (9, false, 24, 0, 50, 1, 969) :: (12, false, 5, 0, 1, 22, 0) :: p79_15 := rfl
set_option maxRecDepth 100000 in
theorem sq79_12 : seek pp79 12 = (12, false, 5, 0, 1, 22, 0) :: p79_15 := rfl
set_option maxRecDepth 100000 in
theorem sq79_21 : seek pp79 21 = (21, false, 25, 0, 0, 0, 0) :: p79_22 := rfl
set_option maxRecDepth 100000 in
theorem sq79_31 : seek pp79 31 = (31, false, 0, 0, 0, 0, 0) :: (32, false, 2, 0, 4, 0, 0) :: (34, false, 0, 0, 0, 0, 0) :: (35, false, 2, 0, 5, 0, 0) :: p79_37 := rfl
def pp80 : List EN := p80_0
theorem sq80_0 : seek pp80 0 = p80_0 := sk80_0
theorem sq80_5 : seek pp80 5 = p80_5 := sk80_5
theorem sq80_37 : seek pp80 37 = p80_37 := sk80_37
theorem sq80_38 : seek pp80 38 = p80_38 := sk80_38
theorem sq80_46 : seek pp80 46 = p80_46 := sk80_46
set_option maxRecDepth 100000 in
theorem sq80_21 : seek pp80 21 = (21, false, 1, 0, 3, 0, 0) :: (22, false, 34, 0, 0, 0, 0) :: (23, false, 1, 0, 2, 0, 0) :: (24, false, 32, 11, 78, 2, 1019) :: (27, false, 5, 0, 0, 37, 0) :: (30, false, 0, 1, 0, 0, 0) :: (31, false, 1, 0, 4, 0, 0) :: (33, false, 4, 0, 5, 0, 0) :: (34, false, 7, 0, 0, 38, 0) :: p80_37 := rfl
set_option maxRecDepth 100000 in
theorem sq80_27 : seek pp80 27 = (27, false, 5, 0, 0, 37, 0) :: (30, false, 0, 1, 0, 0, 0) :: (31, false, 1, 0, 4, 0, 0) :: (33, false, 4, 0, 5, 0, 0) :: (34, false, 7, 0, 0, 38, 0) :: p80_37 := rfl
def pp81 : List EN := p81_0
theorem sq81_0 : seek pp81 0 = p81_0 := sk81_0
theorem sq81_25 : seek pp81 25 = p81_25 := sk81_25
theorem sq81_31 : seek pp81 31 = p81_31 := sk81_31
set_option maxRecDepth 100000 in
theorem sq81_5 : seek pp81 5 = (5, false, 5, 0, 0, 25, 0) :: (8, false, 34, 0, 0, 0, 0) :: (9, false, 1, 0, 2, 0, 0) :: (10, false, 32, 11, 49, 2, 911) :: (13, false, 5, 0, 0, 25, 0) :: (16, false, 34, 0, 0, 0, 0) :: (17, false, 1, 0, 1, 0, 0) :: (18, false, 1, 0, 2, 0, 0) :: (19, false, 32, 11, 80, 3, 1015) :: (22, false, 7, 0, 0, 31, 0) :: p81_25 := rfl
set_option maxRecDepth 100000 in
theorem sq81_13 : seek pp81 13 = (13, false, 5, 0, 0, 25, 0) :: (16, false, 34, 0, 0, 0, 0) :: (17, false, 1, 0, 1, 0, 0) :: (18, false, 1, 0, 2, 0, 0) :: (19, false, 32, 11, 80, 3, 1015) :: (22, false, 7, 0, 0, 31, 0) :: p81_25 := rfl
set_option maxRecDepth 100000 in
theorem sq81_22 : seek pp81 22 = (22, false, 7, 0, 0, 31, 0) :: p81_25 := rfl
def pp82 : List EN := p82_0
theorem sq82_0 : seek pp82 0 = p82_0 := sk82_0
theorem sq82_15 : seek pp82 15 = p82_15 := sk82_15
theorem sq82_19 : seek pp82 19 = p82_19 := sk82_19
theorem sq82_47 : seek pp82 47 = p82_47 := sk82_47
theorem sq82_48 : seek pp82 48 = p82_48 := sk82_48
theorem sq82_56 : seek pp82 56 = p82_56 := sk82_56
set_option maxRecDepth 100000 in
theorem sq82_5 : seek pp82 5 = (5, false, 5, 0, 1, 15, 0) :: (8, false, 34, 0, 0, 0, 0) :: (9, false, 0, (-100001), 0, 0, 906) :: (11, false, 32, 11, 47, 2, 895) :: (14, false, 25, 0, 0, 0, 0) :: p82_15 := rfl
set_option maxRecDepth 100000 in
theorem sq82_14 : seek pp82 14 = (14, false, 25, 0, 0, 0, 0) :: p82_15 := rfl
set_option maxRecDepth 100000 in
theorem sq82_31 : seek pp82 31 = (31, false, 5, 0, 0, 47, 0) :: (34, false, 34, 0, 0, 0, 0) :: (35, false, 1, 0, 3, 0, 0) :: (36, false, 1, 0, 1, 0, 0) :: (37, false, 32, 11, 80, 3, 1015) :: (40, false, 5, 0, 0, 47, 0) :: (43, false, 0, 1, 0, 0, 0) :: (44, false, 7, 0, 0, 48, 0) :: p82_47 := rfl
set_option maxRecDepth 100000 in
theorem sq82_40 : seek pp82 40 = (40, false, 5, 0, 0, 47, 0) :: (43, false, 0, 1, 0, 0, 0) :: (44, false, 7, 0, 0, 48, 0) :: p82_47 := rfl
def pp83 : List EN := p83_0
theorem sq83_0 : seek pp83 0 = p83_0 := sk83_0
theorem sq83_7 : seek pp83 7 = p83_7 := sk83_7
theorem sq83_27 : seek pp83 27 = p83_27 := sk83_27
theorem sq83_29 : seek pp83 29 = p83_29 := sk83_29
theorem sq83_69 : seek pp83 69 = p83_69 := sk83_69
theorem sq83_95 : seek pp83 95 = p83_95 := sk83_95
theorem sq83_128 : seek pp83 128 = p83_128 := sk83_128
theorem sq83_134 : seek pp83 134 = p83_134 := sk83_134
set_option maxRecDepth 100000 in
theorem sq83_43 : seek pp83 43 = (43, false, 5, 0, 0, 128, 0) :: (46, false, 34, 0, 0, 0, 0) :: (47, false, 8, 0, 11, 17, 833) :: (50, false, 1, 0, 1, 0, 0) :: (51, false, 14, 0, 0, 0, 0) :: (52, false, 5, 0, 1, 128, 0) :: (55, false, 34, 0, 0, 0, 0) :: (56, false, 1, 0, 1, 0, 0) :: (57, false, 32, 11, 71, 2, 972) :: (60, false, 34, 0, 0, 0, 0) :: (61, false, 8, 0, 11, 9, 825) :: (64, false, 5, 0, 0, 128, 0) :: (67, false, 0, 0, 0, 0, 0) :: (68, false, 2, 0, 2, 0, 0) :: p83_69 := rfl
set_option maxRecDepth 100000 in
theorem sq83_60 : seek pp83 60 = (60, false, 34, 0, 0, 0, 0) :: (61, false, 8, 0, 11, 9, 825) :: (64, false, 5, 0, 0, 128, 0) :: (67, false, 0, 0, 0, 0, 0) :: (68, false, 2, 0, 2, 0, 0) :: p83_69 := rfl
def pp84 : List EN := p84_0
theorem sq84_0 : seek pp84 0 = p84_0 := sk84_0
set_option maxRecDepth 100000 in
theorem sq84_4 : seek pp84 4 = (4, false, 34, 0, 0, 0, 0) :: (5, false, 8, 0, 11, 18, 834) :: (8, false, 25, 0, 0, 0, 0) :: [] := rfl
def pp85 : List EN := p85_0
theorem sq85_0 : seek pp85 0 = p85_0 := sk85_0
theorem sq85_16 : seek pp85 16 = p85_16 := sk85_16
theorem sq85_23 : seek pp85 23 = p85_23 := sk85_23
theorem sq85_36 : seek pp85 36 = p85_36 := sk85_36
theorem sq85_42 : seek pp85 42 = p85_42 := sk85_42
set_option maxRecDepth 100000 in
theorem sq85_4 : seek pp85 4 = (4, false, 1, 0, 1, 0, 0) :: (5, false, 5, 0, 2, 16, 0) :: (8, false, 1, 0, 1, 0, 0) :: (9, false, 34, 0, 0, 0, 0) :: (10, false, 8, 0, 11, 18, 834) :: (13, false, 6, 0, 2, 23, 0) :: p85_16 := rfl
set_option maxRecDepth 100000 in
theorem sq85_22 : seek pp85 22 = (22, false, 25, 0, 0, 0, 0) :: p85_23 := rfl
def pp86 : List EN := p86_0
theorem sq86_0 : seek pp86 0 = p86_0 := sk86_0
theorem sq86_24 : seek pp86 24 = p86_24 := sk86_24
theorem sq86_31 : seek pp86 31 = p86_31 := sk86_31
theorem sq86_48 : seek pp86 48 = p86_48 := sk86_48
theorem sq86_55 : seek pp86 55 = p86_55 := sk86_55
theorem sq86_73 : seek pp86 73 = p86_73 := sk86_73
set_option maxRecDepth 100000 in
theorem sq86_5 : seek pp86 5 = (5, false, 5, 0, 0, 24, 0) :: (8, false, 1, 0, 2, 0, 0) :: (9, false, 24, 0, 50, 1, 969) :: (12, false, 5, 0, 0, 24, 0) :: (15, false, 1, 0, 3, 0, 0) :: (16, false, 0, 0, 0, 0, 0) :: (17, false, 0, 2, 0, 0, 0) :: (18, false, 24, 0, 48, 3, 903) :: (21, false, 5, 0, 1, 31, 0) :: p86_24 := rfl
set_option maxRecDepth 100000 in
theorem sq86_12 : seek pp86 12 = (12, false, 5, 0, 0, 24, 0) :: (15, false, 1, 0, 3, 0, 0) :: (16, false, 0, 0, 0, 0, 0) :: (17, false, 0, 2, 0, 0, 0) :: (18, false, 24, 0, 48, 3, 903) :: (21, false, 5, 0, 1, 31, 0) :: p86_24 := rfl
set_option maxRecDepth 100000 in
theorem sq86_21 : seek pp86 21 = (21, false, 5, 0, 1, 31, 0) :: p86_24 := rfl
set_option maxRecDepth 100000 in
theorem sq86_30 : seek pp86 30 = (30, false, 25, 0, 0, 0, 0) :: p86_31 := rfl
set_option maxRecDepth 100000 in
theorem sq86_36 : seek pp86 36 = (36, false, 0, (-1), 0, 0, 0) :: (37, false, 6, 0, 1, 48, 0) :: (40, false, 34, 0, 0, 0, 0) :: (41, false, 1, 0, 1, 0, 0) :: (42, false, 32, 11, 60, 2, 934) :: (45, false, 5, 0, 2, 55, 0) :: p86_48 := rfl
set_option maxRecDepth 100000 in
theorem sq86_45 : seek pp86 45 = (45, false, 5, 0, 2, 55, 0) :: p86_48 := rfl
set_option maxRecDepth 100000 in
theorem sq86_54 : seek pp86 54 = (54, false, 25, 0, 0, 0, 0) :: p86_55 := rfl
set_option maxRecDepth 100000 in
theorem sq86_72 : seek pp86 72 = (72, false, 25, 0, 0, 0, 0) :: p86_73 := rfl
set_option maxRecDepth 100000 in
theorem sq86_77 : seek pp86 77 = (77, false, 0, 247, 0, 0, 0) :: (80, false, 0, 3, 0, 0, 0) :: (81, false, 34, 0, 0, 0, 0) :: (82, false, 8, 0, 11, 0, 816) :: (85, false, 0, 2, 0, 0, 0) :: (86, false, 12, 0, 0, 0, 0) :: (87, false, 4, 0, 2, 0, 0) :: (88, false, 4, 0, 0, 0, 0) :: (89, false, 2, 0, 4, 0, 0) :: (91, false, 34, 0, 0, 0, 0) :: (92, false, 8, 0, 11, 0, 816) :: (95, false, 1, 0, 4, 0, 0) :: (97, false, 1, 0, 1, 0, 0) :: (98, false, 13, 0, 0, 0, 0) :: (99, false, 34, 0, 0, 0, 0) :: (100, false, 8, 0, 11, 0, 816) :: (103, false, 1, 0, 4, 0, 0) :: (105, false, 0, 1, 0, 0, 0) :: (106, false, 4, 0, 0, 0, 0) :: (107, false, 1, 0, 2, 0, 0) :: (108, false, 13, 0, 0, 0, 0) :: (109, false, 34, 0, 0, 0, 0) :: (110, false, 8, 0, 11, 0, 816) :: (113, false, 1, 0, 4, 0, 0) :: (115, false, 0, 2, 0, 0, 0) :: (116, false, 4, 0, 0, 0, 0) :: (117, false, 1, 0, 3, 0, 0) :: (118, false, 13, 0, 0, 0, 0) :: (119, false, 34, 0, 0, 0, 0) :: (120, false, 8, 0, 11, 0, 816) :: (123, false, 0, 2, 0, 0, 0) :: (124, false, 23, 0, 0, 0, 0) :: (125, false, 12, 0, 0, 0, 0) :: (126, false, 0, 1, 0, 0, 0) :: (127, false, 4, 0, 0, 0, 0) :: (128, false, 13, 0, 0, 0, 0) :: (129, false, 34, 0, 0, 0, 0) :: (130, false, 8, 0, 11, 0, 816) :: (133, false, 0, 2, 0, 0, 0) :: (134, false, 12, 0, 0, 0, 0) :: (135, false, 0, 1, 0, 0, 0) :: (136, false, 4, 0, 1, 0, 0) :: (137, false, 25, 0, 0, 0, 0) :: [] := rfl
def pp87 : List EN := p87_0
theorem sq87_0 : seek pp87 0 = p87_0 := sk87_0
theorem sq87_16 : seek pp87 16 = p87_16 := sk87_16
set_option maxRecDepth 100000 in
theorem sq87_15 : seek pp87 15 = (15, false, 25, 0, 0, 0, 0) :: p87_16 := rfl
set_option maxRecDepth 100000 in
theorem sq87_20 : seek pp87 20 = (20, false, 34, 0, 0, 0, 0) :: (21, false, 8, 0, 11, 0, 816) :: (24, false, 0, 2, 0, 0, 0) :: (25, false, 23, 0, 0, 0, 0) :: (26, false, 12, 0, 0, 0, 0) :: (27, false, 0, 1, 0, 0, 0) :: (28, false, 4, 0, 1, 0, 0) :: (29, false, 13, 0, 0, 0, 0) :: (30, false, 34, 0, 0, 0, 0) :: (31, false, 8, 0, 11, 0, 816) :: (34, false, 0, 2, 0, 0, 0) :: (35, false, 12, 0, 0, 0, 0) :: (36, false, 25, 0, 0, 0, 0) :: [] := rfl
def pp88 : List EN := p88_0
theorem sq88_0 : seek pp88 0 = p88_0 := sk88_0
theorem sq88_15 : seek pp88 15 = p88_15 := sk88_15
theorem sq88_22 : seek pp88 22 = p88_22 := sk88_22
set_option maxRecDepth 100000 in
theorem sq88_5 : seek pp88 5 = (5, false, 5, 0, 0, 15, 0) :: (8, false, 1, 0, 2, 0, 0) :: (9, false, 24, 0, 50, 1, 969) :: (12, false, 5, 0, 1, 22, 0) :: p88_15 := rfl
set_option maxRecDepth 100000 in
theorem sq88_12 : seek pp88 12 = (12, false, 5, 0, 1, 22, 0) :: p88_15 := rfl
set_option maxRecDepth 100000 in
theorem sq88_21 : seek pp88 21 = (21, false, 25, 0, 0, 0, 0) :: p88_22 := rfl
set_option maxRecDepth 100000 in
theorem sq88_26 : seek pp88 26 = (26, false, 34, 0, 0, 0, 0) :: (27, false, 8, 0, 11, 0, 816) :: (30, false, 0, 247, 0, 0, 0) :: (33, false, 0, 3, 0, 0, 0) :: (34, false, 1, 0, 1, 0, 0) :: (35, false, 4, 0, 2, 0, 0) :: (36, false, 4, 0, 0, 0, 0) :: (37, false, 0, 1, 0, 0, 0) :: (38, false, 4, 0, 0, 0, 0) :: (39, false, 12, 0, 0, 0, 0) :: (40, false, 2, 0, 3, 0, 0) :: (41, false, 34, 0, 0, 0, 0) :: (42, false, 8, 0, 11, 0, 816) :: (45, false, 0, 247, 0, 0, 0) :: (48, false, 0, 3, 0, 0, 0) :: (49, false, 1, 0, 1, 0, 0) :: (50, false, 4, 0, 2, 0, 0) :: (51, false, 4, 0, 0, 0, 0) :: (52, false, 0, 1, 0, 0, 0) :: (53, false, 4, 0, 0, 0, 0) :: (54, false, 1, 0, 2, 0, 0) :: (55, false, 13, 0, 0, 0, 0) :: (56, false, 1, 0, 3, 0, 0) :: (57, false, 25, 0, 0, 0, 0) :: [] := rfl
def pp89 : List EN := p89_0
theorem sq89_0 : seek pp89 0 = p89_0 := sk89_0
theorem sq89_2 : seek pp89 2 = p89_2 := sk89_2
theorem sq89_21 : seek pp89 21 = p89_21 := sk89_21
theorem sq89_23 : seek pp89 23 = p89_23 := sk89_23
theorem sq89_68 : seek pp89 68 = p89_68 := sk89_68
theorem sq89_98 : seek pp89 98 = p89_98 := sk89_98
theorem sq89_117 : seek pp89 117 = p89_117 := sk89_117
theorem sq89_118 : seek pp89 118 = p89_118 := sk89_118
theorem sq89_126 : seek pp89 126 = p89_126 := sk89_126
theorem sq89_132 : seek pp89 132 = p89_132 := sk89_132
set_option maxRecDepth 100000 in
theorem sq89_66 : seek pp89 66 = (66, false, 0, 0, 0, 0, 0) :: (67, false, 2, 0, 2, 0, 0) :: p89_68 := rfl
set_option maxRecDepth 100000 in
theorem sq89_86 : seek pp89 86 = (86, false, 5, 0, 1, 98, 0) :: (89, false, 34, 0, 0, 0, 0) :: (90, false, 8, 0, 11, 12, 828) :: (93, false, 1, 0, 2, 0, 0) :: (94, false, 14, 0, 0, 0, 0) :: (95, false, 5, 0, 0, 117, 0) :: p89_98 := rfl
def pp90 : List EN := p90_0
theorem sq90_0 : seek pp90 0 = p90_0 := sk90_0
theorem sq90_15 : seek pp90 15 = p90_15 := sk90_15
set_option maxRecDepth 100000 in
theorem sq90_5 : seek pp90 5 = (5, false, 5, 0, 1, 15, 0) :: (8, false, 34, 0, 0, 0, 0) :: (9, false, 0, (-100001), 0, 0, 906) :: (11, false, 32, 11, 47, 2, 895) :: (14, false, 25, 0, 0, 0, 0) :: p90_15 := rfl
set_option maxRecDepth 100000 in
theorem sq90_14 : seek pp90 14 = (14, false, 25, 0, 0, 0, 0) :: p90_15 := rfl
set_option maxRecDepth 100000 in
theorem sq90_19 : seek pp90 19 = (19, false, 34, 0, 0, 0, 0) :: (20, false, 8, 0, 11, 19, 835) :: (23, false, 1, 0, 1, 0, 0) :: (24, false, 12, 0, 0, 0, 0) :: (25, false, 25, 0, 0, 0, 0) :: [] := rfl
def pp91 : List EN := p91_0
theorem sq91_0 : seek pp91 0 = p91_0 := sk91_0
theorem sq91_16 : seek pp91 16 = p91_16 := sk91_16
theorem sq91_24 : seek pp91 24 = p91_24 := sk91_24
theorem sq91_49 : seek pp91 49 = p91_49 := sk91_49
set_option maxRecDepth 100000 in
theorem sq91_6 : seek pp91 6 = (6, false, 5, 0, 1, 16, 0) :: (9, false, 34, 0, 0, 0, 0) :: (10, false, 0, (-100001), 0, 0, 906) :: (12, false, 32, 11, 47, 2, 895) :: (15, false, 25, 0, 0, 0, 0) :: p91_16 := rfl
set_option maxRecDepth 100000 in
theorem sq91_15 : seek pp91 15 = (15, false, 25, 0, 0, 0, 0) :: p91_16 := rfl
set_option maxRecDepth 100000 in
theorem sq91_20 : seek pp91 20 = (20, false, 0, 0, 0, 0, 0) :: (21, false, 2, 0, 2, 0, 0) :: (22, false, 0, 0, 0, 0, 0) :: (23, false, 2, 0, 3, 0, 0) :: p91_24 := rfl
def pp92 : List EN := p92_0
theorem sq92_0 : seek pp92 0 = p92_0 := sk92_0
theorem sq92_4 : seek pp92 4 = p92_4 := sk92_4
theorem sq92_29 : seek pp92 29 = p92_29 := sk92_29
def pp93 : List EN := p93_0
theorem sq93_0 : seek pp93 0 = p93_0 := sk93_0
theorem sq93_4 : seek pp93 4 = p93_4 := sk93_4
theorem sq93_16 : seek pp93 16 = p93_16 := sk93_16
theorem sq93_79 : seek pp93 79 = p93_79 := sk93_79
theorem sq93_85 : seek pp93 85 = p93_85 := sk93_85
theorem sq93_94 : seek pp93 94 = p93_94 := sk93_94
theorem sq93_95 : seek pp93 95 = p93_95 := sk93_95
theorem sq93_100 : seek pp93 100 = p93_100 := sk93_100
set_option maxRecDepth 100000 in
theorem sq93_14 : seek pp93 14 = (14, false, 0, 0, 0, 0, 0) :: (15, false, 2, 0, 3, 0, 0) :: p93_16 := rfl
set_option maxRecDepth 100000 in
theorem sq93_27 : seek pp93 27 = (27, false, 0, 3, 0, 0, 0) :: (28, false, 6, 0, 1, 79, 0) :: (31, false, 34, 0, 0, 0, 0) :: (32, false, 8, 0, 11, 0, 816) :: (35, false, 0, 166, 0, 0, 0) :: (38, false, 1, 0, 3, 0, 0) :: (39, false, 4, 0, 0, 0, 0) :: (40, false, 12, 0, 0, 0, 0) :: (41, false, 5, 0, 1, 79, 0) :: (44, false, 34, 0, 0, 0, 0) :: (45, false, 8, 0, 11, 19, 835) :: (48, false, 1, 0, 3, 0, 0) :: (49, false, 12, 0, 0, 0, 0) :: (50, false, 34, 0, 0, 0, 0) :: (51, false, 8, 0, 11, 0, 816) :: (54, false, 0, 85, 0, 0, 0) :: (56, false, 1, 0, 3, 0, 0) :: (57, false, 4, 0, 0, 0, 0) :: (58, false, 12, 0, 0, 0, 0) :: (59, false, 4, 0, 6, 0, 0) :: (60, false, 0, 1, 0, 0, 0) :: (61, false, 4, 0, 8, 0, 0) :: (62, false, 0, 1, 0, 0, 0) :: (63, false, 6, 0, 1, 79, 0) :: (66, false, 34, 0, 0, 0, 0) :: (67, false, 8, 0, 11, 0, 816) :: (70, false, 0, 166, 0, 0, 0) :: (73, false, 1, 0, 3, 0, 0) :: (74, false, 4, 0, 0, 0, 0) :: (75, false, 0, 1, 0, 0, 0) :: (76, false, 13, 0, 0, 0, 0) :: (77, false, 0, 1, 0, 0, 0) :: (78, false, 2, 0, 2, 0, 0) :: p93_79 := rfl
def pp94 : List EN := p94_0
theorem sq94_0 : seek pp94 0 = p94_0 := sk94_0
theorem sq94_2 : seek pp94 2 = p94_2 := sk94_2
theorem sq94_30 : seek pp94 30 = p94_30 := sk94_30
theorem sq94_43 : seek pp94 43 = p94_43 := sk94_43
theorem sq94_74 : seek pp94 74 = p94_74 := sk94_74
theorem sq94_82 : seek pp94 82 = p94_82 := sk94_82
theorem sq94_83 : seek pp94 83 = p94_83 := sk94_83
set_option maxRecDepth 100000 in
theorem sq94_34 : seek pp94 34 = (34, false, 2, 0, 2, 0, 0) :: (35, false, 34, 0, 0, 0, 0) :: (36, false, 32, 11, 92, 1, 1079) :: (39, false, 2, 0, 3, 0, 0) :: (40, false, 0, 0, 0, 0, 0) :: (41, false, 2, 0, 4, 0, 0) :: p94_43 := rfl
set_option maxRecDepth 100000 in
theorem sq94_39 : seek pp94 39 = (39, false, 2, 0, 3, 0, 0) :: (40, false, 0, 0, 0, 0, 0) :: (41, false, 2, 0, 4, 0, 0) :: p94_43 := rfl
def pp95 : List EN := p95_0
theorem sq95_0 : seek pp95 0 = p95_0 := sk95_0
set_option maxRecDepth 100000 in
theorem sq95_4 : seek pp95 4 = (4, false, 34, 0, 0, 0, 0) :: (5, false, 32, 11, 92, 1, 1079) :: (8, false, 2, 0, 1, 0, 0) :: (9, false, 34, 0, 0, 0, 0) :: (10, false, 32, 11, 93, 1, 1075) :: (13, false, 2, 0, 2, 0, 0) :: (14, false, 34, 0, 0, 0, 0) :: (15, false, 32, 11, 92, 1, 1079) :: (18, false, 1, 0, 1, 0, 0) :: (19, false, 4, 0, 1, 0, 0) :: (20, false, 25, 0, 0, 0, 0) :: [] := rfl
set_option maxRecDepth 100000 in
theorem sq95_8 : seek pp95 8 = (8, false, 2, 0, 1, 0, 0) :: (9, false, 34, 0, 0, 0, 0) :: (10, false, 32, 11, 93, 1, 1075) :: (13, false, 2, 0, 2, 0, 0) :: (14, false, 34, 0, 0, 0, 0) :: (15, false, 32, 11, 92, 1, 1079) :: (18, false, 1, 0, 1, 0, 0) :: (19, false, 4, 0, 1, 0, 0) :: (20, false, 25, 0, 0, 0, 0) :: [] := rfl
set_option maxRecDepth 100000 in
theorem sq95_13 : seek pp95 13 = (13, false, 2, 0, 2, 0, 0) :: (14, false, 34, 0, 0, 0, 0) :: (15, false, 32, 11, 92, 1, 1079) :: (18, false, 1, 0, 1, 0, 0) :: (19, false, 4, 0, 1, 0, 0) :: (20, false, 25, 0, 0, 0, 0) :: [] := rfl
set_option maxRecDepth 100000 in
theorem sq95_18 : seek pp95 18 = (18, false, 1, 0, 1, 0, 0) :: (19, false, 4, 0, 1, 0, 0) :: (20, false, 25, 0, 0, 0, 0) :: [] := rfl
def pp96 : List EN := p96_0
theorem sq96_0 : seek pp96 0 = p96_0 := sk96_0
theorem sq96_7 : seek pp96 7 = p96_7 := sk96_7
theorem sq96_58 : seek pp96 58 = p96_58 := sk96_58
theorem sq96_61 : seek pp96 61 = p96_61 := sk96_61
theorem sq96_67 : seek pp96 67 = p96_67 := sk96_67
set_option maxRecDepth 100000 in
theorem sq96_20 : seek pp96 20 = (20, false, 0, 4, 0, 0, 0) :: (21, false, 6, 0, 1, 61, 0) :: (24, false, 1, 0, 1, 0, 0) :: (25, false, 1, 0, 3, 0, 0) :: (26, false, 4, 0, 6, 0, 0) :: (27, false, 0, 1, 0, 0, 0) :: (28, false, 4, 0, 8, 0, 0) :: (29, false, 0, 1, 0, 0, 0) :: (30, false, 6, 0, 1, 58, 0) :: (33, false, 34, 0, 0, 0, 0) :: (34, false, 8, 0, 11, 0, 816) :: (37, false, 0, 85, 0, 0, 0) :: (39, false, 1, 0, 4, 0, 0) :: (41, false, 4, 0, 0, 0, 0) :: (42, false, 0, 1, 0, 0, 0) :: (43, false, 34, 0, 0, 0, 0) :: (44, false, 8, 0, 11, 0, 816) :: (47, false, 0, 85, 0, 0, 0) :: (49, false, 1, 0, 4, 0, 0) :: (51, false, 4, 0, 0, 0, 0) :: (52, false, 12, 0, 0, 0, 0) :: (53, false, 4, 0, 1, 0, 0) :: (54, false, 13, 0, 0, 0, 0) :: (55, false, 3, 1, 2, 0, 0) :: p96_58 := rfl
def pp97 : List EN := p97_0
theorem sq97_0 : seek pp97 0 = p97_0 := sk97_0
theorem sq97_16 : seek pp97 16 = p97_16 := sk97_16
theorem sq97_23 : seek pp97 23 = p97_23 := sk97_23
theorem sq97_32 : seek pp97 32 = p97_32 := sk97_32
theorem sq97_106 : seek pp97 106 = p97_106 := sk97_106
theorem sq97_120 : seek pp97 120 = p97_120 := sk97_120
theorem sq97_133 : seek pp97 133 = p97_133 := sk97_133
theorem sq97_134 : seek pp97 134 = p97_134 := sk97_134
set_option maxRecDepth 100000 in
theorem sq97_5 : seek pp97 5 = (5, false, 5, 0, 0, 16, 0) :: (8, false, 34, 0, 0, 0, 0) :: (9, false, 1, 0, 2, 0, 0) :: (10, false, 32, 11, 49, 2, 911) :: (13, false, 5, 0, 1, 23, 0) :: p97_16 := rfl
set_option maxRecDepth 100000 in
theorem sq97_13 : seek pp97 13 = (13, false, 5, 0, 1, 23, 0) :: p97_16 := rfl
set_option maxRecDepth 100000 in
theorem sq97_22 : seek pp97 22 = (22, false, 25, 0, 0, 0, 0) :: p97_23 := rfl
set_option maxRecDepth 100000 in
theorem sq97_39 : seek pp97 39 = (39, false, 4, 0, 5, 0, 0) :: (40, false, 6, 0, 3, 120, 0) :: (43, false, 34, 0, 0, 0, 0) :: (44, false, 1, 0, 5, 0, 0) :: (46, false, 32, 11, 96, 2, 1091) :: (49, false, 2, 0, 6, 0, 0) :: (51, false, 1, 0, 6, 0, 0) :: (53, false, 1, 0, 4, 0, 0) :: (55, false, 6, 0, 3, 106, 0) :: (58, false, 34, 0, 0, 0, 0) :: (59, false, 0, 4, 0, 0, 0) :: (60, false, 34, 0, 0, 0, 0) :: (61, false, 8, 0, 11, 0, 816) :: (64, false, 0, 247, 0, 0, 0) :: (67, false, 0, 3, 0, 0, 0) :: (68, false, 1, 0, 1, 0, 0) :: (69, false, 4, 0, 2, 0, 0) :: (70, false, 4, 0, 0, 0, 0) :: (71, false, 12, 0, 0, 0, 0) :: (72, false, 4, 0, 2, 0, 0) :: (73, false, 34, 0, 0, 0, 0) :: (74, false, 8, 0, 11, 0, 816) :: (77, false, 0, 247, 0, 0, 0) :: (80, false, 0, 3, 0, 0, 0) :: (81, false, 1, 0, 1, 0, 0) :: (82, false, 4, 0, 2, 0, 0) :: (83, false, 4, 0, 0, 0, 0) :: (84, false, 0, 1, 0, 0, 0) :: (85, false, 4, 0, 0, 0, 0) :: (86, false, 12, 0, 0, 0, 0) :: (87, false, 4, 0, 0, 0, 0) :: (88, false, 32, 11, 75, 2, 1003) :: (91, false, 34, 0, 0, 0, 0) :: (92, false, 1, 0, 2, 0, 0) :: (93, false, 32, 11, 77, 2, 1063) :: (96, false, 5, 0, 0, 106, 0) :: (99, false, 1, 0, 5, 0, 0) :: (101, false, 2, 0, 3, 0, 0) :: (102, false, 1, 0, 6, 0, 0) :: (104, false, 2, 0, 4, 0, 0) :: p97_106 := rfl
set_option maxRecDepth 100000 in
theorem sq97_49 : seek pp97 49 = (49, false, 2, 0, 6, 0, 0) :: (51, false, 1, 0, 6, 0, 0) :: (53, false, 1, 0, 4, 0, 0) :: (55, false, 6, 0, 3, 106, 0) :: (58, false, 34, 0, 0, 0, 0) :: (59, false, 0, 4, 0, 0, 0) :: (60, false, 34, 0, 0, 0, 0) :: (61, false, 8, 0, 11, 0, 816) :: (64, false, 0, 247, 0, 0, 0) :: (67, false, 0, 3, 0, 0, 0) :: (68, false, 1, 0, 1, 0, 0) :: (69, false, 4, 0, 2, 0, 0) :: (70, false, 4, 0, 0, 0, 0) :: (71, false, 12, 0, 0, 0, 0) :: (72, false, 4, 0, 2, 0, 0) :: (73, false, 34, 0, 0, 0, 0) :: (74, false, 8, 0, 11, 0, 816) :: (77, false, 0, 247, 0, 0, 0) :: (80, false, 0, 3, 0, 0, 0) :: (81, false, 1, 0, 1, 0, 0) :: (82, false, 4, 0, 2, 0, 0) :: (83, false, 4, 0, 0, 0, 0) :: (84, false, 0, 1, 0, 0, 0) :: (85, false, 4, 0, 0, 0, 0) :: (86, false, 12, 0, 0, 0, 0) :: (87, false, 4, 0, 0, 0, 0) :: (88, false, 32, 11, 75, 2, 1003) :: (91, false, 34, 0, 0, 0, 0) :: (92, false, 1, 0, 2, 0, 0) :: (93, false, 32, 11, 77, 2, 1063) :: (96, false, 5, 0, 0, 106, 0) :: (99, false, 1, 0, 5, 0, 0) :: (101, false, 2, 0, 3, 0, 0) :: (102, false, 1, 0, 6, 0, 0) :: (104, false, 2, 0, 4, 0, 0) :: p97_106 := rfl
set_option maxRecDepth 100000 in
theorem sq97_91 : seek pp97 91 = (91, false, 34, 0, 0, 0, 0) :: (92, false, 1, 0, 2, 0, 0) :: (93, false, 32, 11, 77, 2, 1063) :: (96, false, 5, 0, 0, 106, 0) :: (99, false, 1, 0, 5, 0, 0) :: (101, false, 2, 0, 3, 0, 0) :: (102, false, 1, 0, 6, 0, 0) :: (104, false, 2, 0, 4, 0, 0) :: p97_106 := rfl
set_option maxRecDepth 100000 in
theorem sq97_96 : seek pp97 96 = (96, false, 5, 0, 0, 106, 0) :: (99, false, 1, 0, 5, 0, 0) :: (101, false, 2, 0, 3, 0, 0) :: (102, false, 1, 0, 6, 0, 0) :: (104, false, 2, 0, 4, 0, 0) :: p97_106 := rfl
set_option maxRecDepth 100000 in
theorem sq97_112 : seek pp97 112 = (112, false, 2, 0, 7, 0, 0) :: (114, false, 3, 1, 5, 0, 0) :: (117, false, 7, 0, 0, 32, 0) :: p97_120 := rfl
set_option maxRecDepth 100000 in
theorem sq97_130 : seek pp97 130 = (130, false, 7, 0, 0, 134, 0) :: p97_133 := rfl
def pp98 : List EN := p98_0
theorem sq98_0 : seek pp98 0 = p98_0 := sk98_0
theorem sq98_23 : seek pp98 23 = p98_23 := sk98_23
set_option maxRecDepth 100000 in
theorem sq98_7 : seek pp98 7 = (7, false, 4, 0, 5, 0, 0) :: (8, false, 0, 1, 0, 0, 0) :: (9, false, 4, 0, 1, 0, 0) :: (10, false, 24, 0, 48, 3, 903) :: (13, false, 5, 0, 1, 23, 0) :: (16, false, 34, 0, 0, 0, 0) :: (17, false, 0, (-100001), 0, 0, 906) :: (19, false, 32, 11, 47, 2, 895) :: (22, false, 25, 0, 0, 0, 0) :: p98_23 := rfl
set_option maxRecDepth 100000 in
theorem sq98_13 : seek pp98 13 = (13, false, 5, 0, 1, 23, 0) :: (16, false, 34, 0, 0, 0, 0) :: (17, false, 0, (-100001), 0, 0, 906) :: (19, false, 32, 11, 47, 2, 895) :: (22, false, 25, 0, 0, 0, 0) :: p98_23 := rfl
set_option maxRecDepth 100000 in
theorem sq98_22 : seek pp98 22 = (22, false, 25, 0, 0, 0, 0) :: p98_23 := rfl
set_option maxRecDepth 100000 in
theorem sq98_27 : seek pp98 27 = (27, false, 34, 0, 0, 0, 0) :: (28, false, 1, 0, 1, 0, 0) :: (29, false, 32, 11, 96, 2, 1091) :: (32, false, 25, 0, 0, 0, 0) :: [] := rfl
set_option maxRecDepth 100000 in
theorem sq98_32 : seek pp98 32 = (32, false, 25, 0, 0, 0, 0) :: [] := rfl
def pp99 : List EN := p99_0
theorem sq99_0 : seek pp99 0 = p99_0 := sk99_0
theorem sq99_23 : seek pp99 23 = p99_23 := sk99_23
theorem sq99_27 : seek pp99 27 = p99_27 := sk99_27
theorem sq99_28 : seek pp99 28 = p99_28 := sk99_28
set_option maxRecDepth 100000 in
theorem sq99_5 : seek pp99 5 = (5, false, 0, (-1), 0, 0, 0) :: (6, false, 6, 0, 0, 23, 0) :: (9, false, 34, 0, 0, 0, 0) :: (10, false, 8, 0, 11, 0, 816) :: (13, false, 0, 166, 0, 0, 0) :: (16, false, 1, 0, 1, 0, 0) :: (17, false, 4, 0, 0, 0, 0) :: (18, false, 12, 0, 0, 0, 0) :: (19, false, 0, 1, 0, 0, 0) :: (20, false, 6, 0, 1, 27, 0) :: p99_23 := rfl
def pp100 : List EN := p100_0
theorem sq100_0 : seek pp100 0 = p100_0 := sk100_0
theorem sq100_2 : seek pp100 2 = p100_2 := sk100_2
theorem sq100_21 : seek pp100 21 = p100_21 := sk100_21
theorem sq100_30 : seek pp100 30 = p100_30 := sk100_30
theorem sq100_48 : seek pp100 48 = p100_48 := sk100_48
theorem sq100_67 : seek pp100 67 = p100_67 := sk100_67
theorem sq100_134 : seek pp100 134 = p100_134 := sk100_134
theorem sq100_140 : seek pp100 140 = p100_140 := sk100_140
theorem sq100_143 : seek pp100 143 = p100_143 := sk100_143
set_option maxRecDepth 100000 in
theorem sq100_26 : seek pp100 26 = (26, false, 5, 0, 1, 30, 0) :: (29, false, 26, 0, 0, 0, 0) :: p100_30 := rfl
set_option maxRecDepth 100000 in
theorem sq100_81 : seek pp100 81 = (81, false, 2, 0, 6, 0, 0) :: (83, false, 1, 0, 6, 0, 0) :: (85, false, 5, 0, 2, 134, 0) :: (88, false, 34, 0, 0, 0, 0) :: (89, false, 1, 0, 6, 0, 0) :: (91, false, 32, 11, 99, 2, 1107) :: (94, false, 5, 0, 0, 134, 0) :: (97, false, 34, 0, 0, 0, 0) :: (98, false, 8, 0, 11, 21, 837) :: (101, false, 1, 0, 6, 0, 0) :: (103, false, 12, 0, 0, 0, 0) :: (104, false, 5, 0, 3, 134, 0) :: (107, false, 34, 0, 0, 0, 0) :: (108, false, 8, 0, 11, 21, 837) :: (111, false, 1, 0, 6, 0, 0) :: (113, false, 34, 0, 0, 0, 0) :: (114, false, 8, 0, 11, 21, 837) :: (117, false, 1, 0, 4, 0, 0) :: (119, false, 12, 0, 0, 0, 0) :: (120, false, 0, 1, 0, 0, 0) :: (121, false, 4, 0, 0, 0, 0) :: (122, false, 13, 0, 0, 0, 0) :: (123, false, 34, 0, 0, 0, 0) :: (124, false, 8, 0, 11, 13, 829) :: (127, false, 1, 0, 3, 0, 0) :: (128, false, 1, 0, 6, 0, 0) :: (130, false, 13, 0, 0, 0, 0) :: (131, false, 3, 1, 3, 0, 0) :: p100_134 := rfl
set_option maxRecDepth 100000 in
theorem sq100_94 : seek pp100 94 = (94, false, 5, 0, 0, 134, 0) :: (97, false, 34, 0, 0, 0, 0) :: (98, false, 8, 0, 11, 21, 837) :: (101, false, 1, 0, 6, 0, 0) :: (103, false, 12, 0, 0, 0, 0) :: (104, false, 5, 0, 3, 134, 0) :: (107, false, 34, 0, 0, 0, 0) :: (108, false, 8, 0, 11, 21, 837) :: (111, false, 1, 0, 6, 0, 0) :: (113, false, 34, 0, 0, 0, 0) :: (114, false, 8, 0, 11, 21, 837) :: (117, false, 1, 0, 4, 0, 0) :: (119, false, 12, 0, 0, 0, 0) :: (120, false, 0, 1, 0, 0, 0) :: (121, false, 4, 0, 0, 0, 0) :: (122, false, 13, 0, 0, 0, 0) :: (123, false, 34, 0, 0, 0, 0) :: (124, false, 8, 0, 11, 13, 829) :: (127, false, 1, 0, 3, 0, 0) :: (128, false, 1, 0, 6, 0, 0) :: (130, false, 13, 0, 0, 0, 0) :: (131, false, 3, 1, 3, 0, 0) :: p100_134 := rfl
def pp101 : List EN := p101_0
theorem sq101_0 : seek pp101 0 = p101_0 := sk101_0
theorem sq101_16 : seek pp101 16 = p101_16 := sk101_16
theorem sq101_23 : seek pp101 23 = p101_23 := sk101_23
theorem sq101_46 : seek pp101 46 = p101_46 := sk101_46
theorem sq101_52 : seek pp101 52 = p101_52 := sk101_52
set_option maxRecDepth 100000 in
theorem sq101_5 : seek pp101 5 = (5, false, 5, 0, 0, 16, 0) :: (8, false, 34, 0, 0, 0, 0) :: (9, false, 1, 0, 2, 0, 0) :: (10, false, 32, 11, 49, 2, 911) :: (13, false, 5, 0, 1, 23, 0) :: p101_16 := rfl
set_option maxRecDepth 100000 in
theorem sq101_13 : seek pp101 13 = (13, false, 5, 0, 1, 23, 0) :: p101_16 := rfl
set_option maxRecDepth 100000 in
theorem sq101_22 : seek pp101 22 = (22, false, 25, 0, 0, 0, 0) :: p101_23 := rfl
set_option maxRecDepth 100000 in
theorem sq101_28 : seek pp101 28 = (28, false, 34, 0, 0, 0, 0) :: (29, false, 8, 0, 11, 21, 837) :: (32, false, 1, 0, 2, 0, 0) :: (33, false, 12, 0, 0, 0, 0) :: (34, false, 5, 0, 3, 46, 0) :: (37, false, 34, 0, 0, 0, 0) :: (38, false, 0, (-100006), 0, 0, 894) :: (40, false, 32, 11, 47, 2, 895) :: (43, false, 7, 0, 0, 52, 0) :: p101_46 := rfl
set_option maxRecDepth 100000 in
theorem sq101_43 : seek pp101 43 = (43, false, 7, 0, 0, 52, 0) :: p101_46 := rfl
def pp102 : List EN := p102_0
theorem sq102_0 : seek pp102 0 = p102_0 := sk102_0
theorem sq102_7 : seek pp102 7 = p102_7 := sk102_7
theorem sq102_64 : seek pp102 64 = p102_64 := sk102_64
theorem sq102_70 : seek pp102 70 = p102_70 := sk102_70
set_option maxRecDepth 100000 in
theorem sq102_5 : seek pp102 5 = (5, false, 0, 0, 0, 0, 0) :: (6, false, 2, 0, 3, 0, 0) :: p102_7 := rfl
set_option maxRecDepth 100000 in
theorem sq102_18 : seek pp102 18 = (18, false, 2, 0, 4, 0, 0) :: (20, false, 1, 0, 4, 0, 0) :: (22, false, 5, 0, 2, 64, 0) :: (25, false, 34, 0, 0, 0, 0) :: (26, false, 8, 0, 11, 21, 837) :: (29, false, 1, 0, 1, 0, 0) :: (30, false, 12, 0, 0, 0, 0) :: (31, false, 5, 0, 5, 64, 0) :: (34, false, 34, 0, 0, 0, 0) :: (35, false, 8, 0, 11, 21, 837) :: (38, false, 1, 0, 4, 0, 0) :: (40, false, 12, 0, 0, 0, 0) :: (41, false, 5, 0, 2, 64, 0) :: (44, false, 34, 0, 0, 0, 0) :: (45, false, 8, 0, 11, 21, 837) :: (48, false, 1, 0, 4, 0, 0) :: (50, false, 12, 0, 0, 0, 0) :: (51, false, 34, 0, 0, 0, 0) :: (52, false, 8, 0, 11, 21, 837) :: (55, false, 1, 0, 1, 0, 0) :: (56, false, 12, 0, 0, 0, 0) :: (57, false, 0, 1, 0, 0, 0) :: (58, false, 4, 0, 1, 0, 0) :: (59, false, 6, 0, 1, 64, 0) :: (62, false, 1, 0, 3, 0, 0) :: (63, false, 25, 0, 0, 0, 0) :: p102_64 := rfl
def pp103 : List EN := p103_0
theorem sq103_0 : seek pp103 0 = p103_0 := sk103_0
theorem sq103_16 : seek pp103 16 = p103_16 := sk103_16
theorem sq103_23 : seek pp103 23 = p103_23 := sk103_23
theorem sq103_43 : seek pp103 43 = p103_43 := sk103_43
theorem sq103_44 : seek pp103 44 = p103_44 := sk103_44
set_option maxRecDepth 100000 in
theorem sq103_5 : seek pp103 5 = (5, false, 5, 0, 0, 16, 0) :: (8, false, 34, 0, 0, 0, 0) :: (9, false, 1, 0, 2, 0, 0) :: (10, false, 32, 11, 49, 2, 911) :: (13, false, 5, 0, 1, 23, 0) :: p103_16 := rfl
set_option maxRecDepth 100000 in
theorem sq103_13 : seek pp103 13 = (13, false, 5, 0, 1, 23, 0) :: p103_16 := rfl
set_option maxRecDepth 100000 in
theorem sq103_22 : seek pp103 22 = (22, false, 25, 0, 0, 0, 0) :: p103_23 := rfl
set_option maxRecDepth 100000 in
theorem sq103_29 : seek pp103 29 = (29, false, 2, 0, 3, 0, 0) :: (30, false, 1, 0, 3, 0, 0) :: (31, false, 5, 0, 3, 43, 0) :: (34, false, 34, 0, 0, 0, 0) :: (35, false, 0, (-100006), 0, 0, 894) :: (37, false, 32, 11, 47, 2, 895) :: (40, false, 7, 0, 0, 44, 0) :: p103_43 := rfl
set_option maxRecDepth 100000 in
theorem sq103_40 : seek pp103 40 = (40, false, 7, 0, 0, 44, 0) :: p103_43 := rfl
def pp104 : List EN := p104_0
theorem sq104_0 : seek pp104 0 = p104_0 := sk104_0
theorem sq104_15 : seek pp104 15 = p104_15 := sk104_15
theorem sq104_30 : seek pp104 30 = p104_30 := sk104_30
theorem sq104_39 : seek pp104 39 = p104_39 := sk104_39
theorem sq104_59 : seek pp104 59 = p104_59 := sk104_59
theorem sq104_60 : seek pp104 60 = p104_60 := sk104_60
theorem sq104_68 : seek pp104 68 = p104_68 := sk104_68
set_option maxRecDepth 100000 in
theorem sq104_5 : seek pp104 5 = (5, false, 5, 0, 1, 15, 0) :: (8, false, 34, 0, 0, 0, 0) :: (9, false, 0, (-100001), 0, 0, 906) :: (11, false, 32, 11, 47, 2, 895) :: (14, false, 25, 0, 0, 0, 0) :: p104_15 := rfl
set_option maxRecDepth 100000 in
theorem sq104_14 : seek pp104 14 = (14, false, 25, 0, 0, 0, 0) :: p104_15 := rfl
set_option maxRecDepth 100000 in
theorem sq104_20 : seek pp104 20 = (20, false, 5, 0, 1, 30, 0) :: (23, false, 34, 0, 0, 0, 0) :: (24, false, 0, (-100006), 0, 0, 894) :: (26, false, 32, 11, 47, 2, 895) :: (29, false, 25, 0, 0, 0, 0) :: p104_30 := rfl
set_option maxRecDepth 100000 in
theorem sq104_29 : seek pp104 29 = (29, false, 25, 0, 0, 0, 0) :: p104_30 := rfl
set_option maxRecDepth 100000 in
theorem sq104_35 : seek pp104 35 = (35, false, 0, 0, 0, 0, 0) :: (36, false, 2, 0, 2, 0, 0) :: (37, false, 0, 0, 0, 0, 0) :: (38, false, 2, 0, 3, 0, 0) :: p104_39 := rfl
def pp105 : List EN := p105_0
theorem sq105_0 : seek pp105 0 = p105_0 := sk105_0
theorem sq105_16 : seek pp105 16 = p105_16 := sk105_16
theorem sq105_23 : seek pp105 23 = p105_23 := sk105_23
theorem sq105_44 : seek pp105 44 = p105_44 := sk105_44
theorem sq105_46 : seek pp105 46 = p105_46 := sk105_46
theorem sq105_65 : seek pp105 65 = p105_65 := sk105_65
theorem sq105_70 : seek pp105 70 = p105_70 := sk105_70
theorem sq105_93 : seek pp105 93 = p105_93 := sk105_93
theorem sq105_122 : seek pp105 122 = p105_122 := sk105_122
set_option maxRecDepth 100000 in
theorem sq105_5 : seek pp105 5 = (5, false, 5, 0, 0, 16, 0) :: (8, false, 34, 0, 0, 0, 0) :: (9, false, 1, 0, 2, 0, 0) :: (10, false, 32, 11, 49, 2, 911) :: (13, false, 5, 0, 1, 23, 0) :: p105_16 := rfl
set_option maxRecDepth 100000 in
theorem sq105_13 : seek pp105 13 = (13, false, 5, 0, 1, 23, 0) :: p105_16 := rfl
set_option maxRecDepth 100000 in
theorem sq105_22 : seek pp105 22 = (22, false, 25, 0, 0, 0, 0) :: p105_23 := rfl
set_option maxRecDepth 100000 in
theorem sq105_28 : seek pp105 28 = (28, false, 34, 0, 0, 0, 0) :: (29, false, 8, 0, 11, 21, 837) :: (32, false, 1, 0, 2, 0, 0) :: (33, false, 12, 0, 0, 0, 0) :: (34, false, 5, 0, 3, 44, 0) :: (37, false, 34, 0, 0, 0, 0) :: (38, false, 0, (-100006), 0, 0, 894) :: (40, false, 32, 11, 47, 2, 895) :: (43, false, 25, 0, 0, 0, 0) :: p105_44 := rfl
set_option maxRecDepth 100000 in
theorem sq105_43 : seek pp105 43 = (43, false, 25, 0, 0, 0, 0) :: p105_44 := rfl
set_option maxRecDepth 100000 in
theorem sq105_92 : seek pp105 92 = (92, false, 25, 0, 0, 0, 0) :: p105_93 := rfl
set_option maxRecDepth 100000 in
theorem sq105_111 : seek pp105 111 = (111, false, 32, 11, 67, 3, 980) :: (114, false, 2, 0, 4, 0, 0) :: (116, false, 3, 1, 3, 0, 0) :: (119, false, 7, 0, 0, 70, 0) :: p105_122 := rfl
set_option maxRecDepth 100000 in
theorem sq105_114 : seek pp105 114 = (114, false, 2, 0, 4, 0, 0) :: (116, false, 3, 1, 3, 0, 0) :: (119, false, 7, 0, 0, 70, 0) :: p105_122 := rfl
def pp106 : List EN := p106_0
theorem sq106_0 : seek pp106 0 = p106_0 := sk106_0
theorem sq106_10 : seek pp106 10 = p106_10 := sk106_10
theorem sq106_52 : seek pp106 52 = p106_52 := sk106_52
theorem sq106_58 : seek pp106 58 = p106_58 := sk106_58
set_option maxRecDepth 100000 in
theorem sq106_6 : seek pp106 6 = (6, false, 2, 0, 3, 0, 0) :: (7, false, 0, 0, 0, 0, 0) :: (8, false, 2, 0, 4, 0, 0) :: p106_10 := rfl
set_option maxRecDepth 100000 in
theorem sq106_23 : seek pp106 23 = (23, false, 2, 0, 5, 0, 0) :: (25, false, 1, 0, 3, 0, 0) :: (26, false, 1, 0, 4, 0, 0) :: (28, false, 4, 0, 6, 0, 0) :: (29, false, 0, 1, 0, 0, 0) :: (30, false, 4, 0, 8, 0, 0) :: (31, false, 0, 1, 0, 0, 0) :: (32, false, 6, 0, 1, 52, 0) :: (35, false, 1, 0, 5, 0, 0) :: (37, false, 5, 0, 2, 52, 0) :: (40, false, 34, 0, 0, 0, 0) :: (41, false, 1, 0, 5, 0, 0) :: (43, false, 32, 11, 99, 2, 1107) :: (46, false, 5, 0, 0, 52, 0) :: (49, false, 1, 0, 4, 0, 0) :: (51, false, 25, 0, 0, 0, 0) :: p106_52 := rfl
set_option maxRecDepth 100000 in
theorem sq106_46 : seek pp106 46 = (46, false, 5, 0, 0, 52, 0) :: (49, false, 1, 0, 4, 0, 0) :: (51, false, 25, 0, 0, 0, 0) :: p106_52 := rfl
set_option maxRecDepth 100000 in
theorem sq106_64 : seek pp106 64 = (64, false, 25, 0, 0, 0, 0) :: [] := rfl
def pp107 : List EN := p107_0
theorem sq107_0 : seek pp107 0 = p107_0 := sk107_0
set_option maxRecDepth 100000 in
theorem sq107_6 : seek pp107 6 = (6, false, 25, 0, 0, 0, 0) :: [] := rfl
def pp108 : List EN := p108_0
theorem sq108_0 : seek pp108 0 = p108_0 := sk108_0
theorem sq108_29 : seek pp108 29 = p108_29 := sk108_29
theorem sq108_36 : seek pp108 36 = p108_36 := sk108_36
theorem sq108_47 : seek pp108 47 = p108_47 := sk108_47
theorem sq108_60 : seek pp108 60 = p108_60 := sk108_60
theorem sq108_80 : seek pp108 80 = p108_80 := sk108_80
theorem sq108_81 : seek pp108 81 = p108_81 := sk108_81
theorem sq108_85 : seek pp108 85 = p108_85 := sk108_85
theorem sq108_111 : seek pp108 111 = p108_111 := sk108_111
set_option maxRecDepth 100000 in
theorem sq108_4 : seek pp108 4 = (4, false, 5, 0, 0, 29, 0) :: (7, false, 1, 0, 2, 0, 0) :: (8, false, 5, 0, 0, 36, 0) :: (11, false, 1, 0, 2, 0, 0) :: (12, false, 0, 8, 0, 0, 0) :: (14, false, 6, 0, 0, 36, 0) :: (17, false, 1, 0, 2, 0, 0) :: (18, false, 0, 16, 0, 0, 0) :: (20, false, 6, 0, 0, 36, 0) :: (23, false, 1, 0, 2, 0, 0) :: (24, false, 0, 32, 0, 0, 0) :: (26, false, 6, 0, 0, 36, 0) :: p108_29 := rfl
set_option maxRecDepth 100000 in
theorem sq108_35 : seek pp108 35 = (35, false, 25, 0, 0, 0, 0) :: p108_36 := rfl
set_option maxRecDepth 100000 in
theorem sq108_46 : seek pp108 46 = (46, false, 25, 0, 0, 0, 0) :: p108_47 := rfl
set_option maxRecDepth 100000 in
theorem sq108_59 : seek pp108 59 = (59, false, 25, 0, 0, 0, 0) :: p108_60 := rfl
def pp109 : List EN := p109_0
theorem sq109_0 : seek pp109 0 = p109_0 := sk109_0
theorem sq109_14 : seek pp109 14 = p109_14 := sk109_14
theorem sq109_30 : seek pp109 30 = p109_30 := sk109_30
theorem sq109_44 : seek pp109 44 = p109_44 := sk109_44
theorem sq109_51 : seek pp109 51 = p109_51 := sk109_51
theorem sq109_77 : seek pp109 77 = p109_77 := sk109_77
theorem sq109_93 : seek pp109 93 = p109_93 := sk109_93
theorem sq109_94 : seek pp109 94 = p109_94 := sk109_94
set_option maxRecDepth 100000 in
theorem sq109_4 : seek pp109 4 = (4, false, 5, 0, 1, 14, 0) :: (7, false, 34, 0, 0, 0, 0) :: (8, false, 0, (-100001), 0, 0, 906) :: (10, false, 32, 11, 47, 2, 895) :: (13, false, 25, 0, 0, 0, 0) :: p109_14 := rfl
set_option maxRecDepth 100000 in
theorem sq109_13 : seek pp109 13 = (13, false, 25, 0, 0, 0, 0) :: p109_14 := rfl
set_option maxRecDepth 100000 in
theorem sq109_29 : seek pp109 29 = (29, false, 25, 0, 0, 0, 0) :: p109_30 := rfl
set_option maxRecDepth 100000 in
theorem sq109_50 : seek pp109 50 = (50, false, 25, 0, 0, 0, 0) :: p109_51 := rfl
def pp110 : List EN := p110_0
theorem sq110_0 : seek pp110 0 = p110_0 := sk110_0
theorem sq110_34 : seek pp110 34 = p110_34 := sk110_34
theorem sq110_35 : seek pp110 35 = p110_35 := sk110_35
def pp111 : List EN := p111_0
theorem sq111_0 : seek pp111 0 = p111_0 := sk111_0
theorem sq111_14 : seek pp111 14 = p111_14 := sk111_14
theorem sq111_21 : seek pp111 21 = p111_21 := sk111_21
theorem sq111_39 : seek pp111 39 = p111_39 := sk111_39
theorem sq111_46 : seek pp111 46 = p111_46 := sk111_46
theorem sq111_68 : seek pp111 68 = p111_68 := sk111_68
theorem sq111_91 : seek pp111 91 = p111_91 := sk111_91
theorem sq111_98 : seek pp111 98 = p111_98 := sk111_98
theorem sq111_101 : seek pp111 101 = p111_101 := sk111_101
theorem sq111_135 : seek pp111 135 = p111_135 := sk111_135
theorem sq111_138 : seek pp111 138 = p111_138 := sk111_138
set_option maxRecDepth 100000 in
theorem sq111_173 : seek pp111 173 = p111_173 := sk111_173
set_option maxRecDepth 100000 in
theorem sq111_4 : seek pp111 4 = (4, false, 5, 0, 0, 14, 0) :: (7, false, 1, 0, 3, 0, 0) :: (8, false, 24, 0, 107, 1, 1135) :: (11, false, 5, 0, 1, 21, 0) :: p111_14 := rfl
set_option maxRecDepth 100000 in
theorem sq111_11 : seek pp111 11 = (11, false, 5, 0, 1, 21, 0) :: p111_14 := rfl
set_option maxRecDepth 100000 in
theorem sq111_20 : seek pp111 20 = (20, false, 25, 0, 0, 0, 0) :: p111_21 := rfl
set_option maxRecDepth 100000 in
theorem sq111_45 : seek pp111 45 = (45, false, 25, 0, 0, 0, 0) :: p111_46 := rfl
set_option maxRecDepth 100000 in
theorem sq111_67 : seek pp111 67 = (67, false, 25, 0, 0, 0, 0) :: p111_68 := rfl
set_option maxRecDepth 100000 in
theorem sq111_76 : seek pp111 76 = (76, false, 5, 0, 0, 91, 0) :: (79, false, 34, 0, 0, 0, 0) :: (80, false, 1, 0, 3, 0, 0) :: (81, false, 1, 0, 4, 0, 0) :: (83, false, 1, 0, 5, 0, 0) :: (85, false, 32, 11, 110, 4, 1148) :: (88, false, 5, 0, 1, 98, 0) :: p111_91 := rfl
set_option maxRecDepth 100000 in
theorem sq111_88 : seek pp111 88 = (88, false, 5, 0, 1, 98, 0) :: p111_91 := rfl
set_option maxRecDepth 100000 in
theorem sq111_97 : seek pp111 97 = (97, false, 25, 0, 0, 0, 0) :: p111_98 := rfl
def pp112 : List EN := p112_0
theorem sq112_0 : seek pp112 0 = p112_0 := sk112_0
theorem sq112_21 : seek pp112 21 = p112_21 := sk112_21
theorem sq112_28 : seek pp112 28 = p112_28 := sk112_28
theorem sq112_44 : seek pp112 44 = p112_44 := sk112_44
theorem sq112_53 : seek pp112 53 = p112_53 := sk112_53
theorem sq112_130 : seek pp112 130 = p112_130 := sk112_130
theorem sq112_140 : seek pp112 140 = p112_140 := sk112_140
theorem sq112_150 : seek pp112 150 = p112_150 := sk112_150
set_option maxRecDepth 100000 in
theorem sq112_161 : seek pp112 161 = p112_161 := sk112_161
set_option maxRecDepth 100000 in
theorem sq112_162 : seek pp112 162 = p112_162 := sk112_162
set_option maxRecDepth 100000 in
theorem sq112_172 : seek pp112 172 = p112_172 := sk112_172
set_option maxRecDepth 100000 in
theorem sq112_186 : seek pp112 186 = p112_186 := sk112_186
set_option maxRecDepth 100000 in
theorem sq112_191 : seek pp112 191 = p112_191 := sk112_191
set_option maxRecDepth 100000 in
theorem sq112_197 : seek pp112 197 = p112_197 := sk112_197
set_option maxRecDepth 100000 in
theorem sq112_203 : seek pp112 203 = p112_203 := sk112_203
set_option maxRecDepth 100000 in
theorem sq112_18 : seek pp112 18 = (18, false, 5, 0, 1, 28, 0) :: p112_21 := rfl
set_option maxRecDepth 100000 in
theorem sq112_27 : seek pp112 27 = (27, false, 25, 0, 0, 0, 0) :: p112_28 := rfl
set_option maxRecDepth 100000 in
theorem sq112_43 : seek pp112 43 = (43, false, 25, 0, 0, 0, 0) :: p112_44 := rfl
set_option maxRecDepth 100000 in
theorem sq112_48 : seek pp112 48 = (48, false, 0, 0, 0, 0, 0) :: (49, false, 2, 0, 3, 0, 0) :: (50, false, 0, 0, 0, 0, 0) :: (51, false, 2, 0, 4, 0, 0) :: p112_53 := rfl
set_option maxRecDepth 100000 in
theorem sq112_106 : seek pp112 106 = (106, false, 5, 0, 0, 197, 0) :: (109, false, 34, 0, 0, 0, 0) :: (110, false, 1, 0, 5, 0, 0) :: (112, false, 32, 11, 60, 2, 934) :: (115, false, 5, 0, 3, 197, 0) :: (118, false, 34, 0, 0, 0, 0) :: (119, false, 1, 0, 5, 0, 0) :: (121, false, 1, 0, 6, 0, 0) :: (123, false, 5, 0, 1, 130, 0) :: (126, false, 0, (-1), 0, 0, 0) :: (127, false, 7, 0, 0, 162, 0) :: p112_130 := rfl
set_option maxRecDepth 100000 in
theorem sq112_115 : seek pp112 115 = (115, false, 5, 0, 3, 197, 0) :: (118, false, 34, 0, 0, 0, 0) :: (119, false, 1, 0, 5, 0, 0) :: (121, false, 1, 0, 6, 0, 0) :: (123, false, 5, 0, 1, 130, 0) :: (126, false, 0, (-1), 0, 0, 0) :: (127, false, 7, 0, 0, 162, 0) :: p112_130 := rfl
set_option maxRecDepth 100000 in
theorem sq112_194 : seek pp112 194 = (194, false, 3, 1, 3, 0, 0) :: p112_197 := rfl
def pp113 : List EN := p113_0
theorem sq113_0 : seek pp113 0 = p113_0 := sk113_0
theorem sq113_40 : seek pp113 40 = p113_40 := sk113_40
theorem sq113_54 : seek pp113 54 = p113_54 := sk113_54
theorem sq113_59 : seek pp113 59 = p113_59 := sk113_59
theorem sq113_66 : seek pp113 66 = p113_66 := sk113_66
theorem sq113_71 : seek pp113 71 = p113_71 := sk113_71
theorem sq113_76 : seek pp113 76 = p113_76 := sk113_76
theorem sq113_81 : seek pp113 81 = p113_81 := sk113_81
set_option maxRecDepth 100000 in
theorem sq113_58 : seek pp113 58 = (58, false, 25, 0, 0, 0, 0) :: p113_59 := rfl
set_option maxRecDepth 100000 in
theorem sq113_70 : seek pp113 70 = (70, false, 25, 0, 0, 0, 0) :: p113_71 := rfl
set_option maxRecDepth 100000 in
theorem sq113_75 : seek pp113 75 = (75, false, 25, 0, 0, 0, 0) :: p113_76 := rfl
set_option maxRecDepth 100000 in
theorem sq113_87 : seek pp113 87 = (87, false, 25, 0, 0, 0, 0) :: [] := rfl
def pp114 : List EN := p114_0
theorem sq114_0 : seek pp114 0 = p114_0 := sk114_0
set_option maxRecDepth 100000 in
theorem sq114_30 : seek pp114 30 = (30, false, 10, 0, 0, 3, 234) :: (33, false, 26, 0, 0, 0, 0) :: [] := rfl
def pp115 : List EN := p115_0
theorem sq115_0 : seek pp115 0 = p115_0 := sk115_0
theorem sq115_10 : seek pp115 10 = p115_10 := sk115_10
theorem sq115_40 : seek pp115 40 = p115_40 := sk115_40
theorem sq115_78 : seek pp115 78 = p115_78 := sk115_78
theorem sq115_95 : seek pp115 95 = p115_95 := sk115_95
theorem sq115_101 : seek pp115 101 = p115_101 := sk115_101
theorem sq115_107 : seek pp115 107 = p115_107 := sk115_107
set_option maxRecDepth 100000 in
theorem sq115_8 : seek pp115 8 = (8, false, 0, 0, 0, 0, 0) :: (9, false, 2, 0, 2, 0, 0) :: p115_10 := rfl
set_option maxRecDepth 100000 in
theorem sq115_38 : seek pp115 38 = (38, false, 0, 0, 0, 0, 0) :: (39, false, 2, 0, 3, 0, 0) :: p115_40 := rfl
set_option maxRecDepth 100000 in
theorem sq115_54 : seek pp115 54 = (54, false, 5, 0, 1, 78, 0) :: (57, false, 34, 0, 1, 0, 0) :: (58, false, 8, 0, 1, 2, 78) :: (61, false, 1, 0, 3, 0, 0) :: (62, false, 12, 0, 0, 0, 0) :: (63, false, 0, 3, 0, 0, 0) :: (64, false, 6, 0, 1, 95, 0) :: (67, false, 34, 0, 0, 0, 0) :: (68, false, 8, 0, 0, 3, 234) :: (71, false, 1, 0, 3, 0, 0) :: (72, false, 32, 6, 160, 2, 614) :: (75, false, 5, 0, 0, 95, 0) :: p115_78 := rfl
set_option maxRecDepth 100000 in
theorem sq115_75 : seek pp115 75 = (75, false, 5, 0, 0, 95, 0) :: p115_78 := rfl
def pp116 : List EN := p116_0
theorem sq116_0 : seek pp116 0 = p116_0 := sk116_0
theorem sq116_4 : seek pp116 4 = p116_4 := sk116_4
theorem sq116_29 : seek pp116 29 = p116_29 := sk116_29
def pp117 : List EN := p117_0
theorem sq117_0 : seek pp117 0 = p117_0 := sk117_0
theorem sq117_12 : seek pp117 12 = p117_12 := sk117_12
theorem sq117_36 : seek pp117 36 = p117_36 := sk117_36
theorem sq117_62 : seek pp117 62 = p117_62 := sk117_62
set_option maxRecDepth 100000 in
theorem sq117_23 : seek pp117 23 = (23, false, 34, 0, 0, 0, 0) :: (24, false, 34, 0, 1, 0, 0) :: (25, false, 32, 0, 118, 2, 633) :: (28, false, 2, 0, 3, 0, 0) :: (29, false, 1, 0, 3, 0, 0) :: (30, false, 5, 0, 1, 36, 0) :: (33, false, 7, 0, 0, 62, 0) :: p117_36 := rfl
set_option maxRecDepth 100000 in
theorem sq117_28 : seek pp117 28 = (28, false, 2, 0, 3, 0, 0) :: (29, false, 1, 0, 3, 0, 0) :: (30, false, 5, 0, 1, 36, 0) :: (33, false, 7, 0, 0, 62, 0) :: p117_36 := rfl
def pp118 : List EN := p118_0
theorem sq118_0 : seek pp118 0 = p118_0 := sk118_0
theorem sq118_4 : seek pp118 4 = p118_4 := sk118_4
theorem sq118_58 : seek pp118 58 = p118_58 := sk118_58
theorem sq118_64 : seek pp118 64 = p118_64 := sk118_64
def pp119 : List EN := p119_0
theorem sq119_0 : seek pp119 0 = p119_0 := sk119_0
set_option maxRecDepth 100000 in
theorem sq119_32 : seek pp119 32 = (32, false, 34, 0, 0, 0, 0) :: (33, false, 0, 81, 0, 0, 0) :: (35, false, 19, 0, 0, 0, 0) :: (37, false, 10, 0, 1, 3, 81) :: (40, false, 34, 0, 0, 0, 0) :: (41, false, 0, 81, 0, 0, 0) :: (43, false, 19, 0, 0, 0, 0) :: (45, false, 10, 0, 1, 4, 84) :: (48, false, 34, 0, 0, 0, 0) :: (49, false, 0, 0, 0, 0, 0) :: (50, false, 9, 0, 1, 5, 87) :: (53, false, 34, 0, 0, 0, 0) :: (54, false, 0, 6, 0, 0, 0) :: (56, false, 19, 0, 0, 0, 0) :: (58, false, 10, 0, 1, 6, 90) :: (61, false, 34, 0, 0, 0, 0) :: (62, false, 0, 6, 0, 0, 0) :: (64, false, 19, 0, 0, 0, 0) :: (66, false, 10, 0, 1, 7, 93) :: (69, false, 34, 0, 0, 0, 0) :: (70, false, 0, 6, 0, 0, 0) :: (72, false, 19, 0, 0, 0, 0) :: (74, false, 10, 0, 1, 8, 97) :: (77, false, 26, 0, 0, 0, 0) :: [] := rfl
def pp120 : List EN := p120_0
theorem sq120_0 : seek pp120 0 = p120_0 := sk120_0
def pp121 : List EN := p121_0
theorem sq121_0 : seek pp121 0 = p121_0 := sk121_0
theorem sq121_36 : seek pp121 36 = p121_36 := sk121_36
theorem sq121_37 : seek pp121 37 = p121_37 := sk121_37
def pp122 : List EN := p122_0
theorem sq122_0 : seek pp122 0 = p122_0 := sk122_0
theorem sq122_16 : seek pp122 16 = p122_16 := sk122_16
theorem sq122_17 : seek pp122 17 = p122_17 := sk122_17
def pp123 : List EN := p123_0
theorem sq123_0 : seek pp123 0 = p123_0 := sk123_0
theorem sq123_49 : seek pp123 49 = p123_49 := sk123_49
theorem sq123_51 : seek pp123 51 = p123_51 := sk123_51
def pp124 : List EN := p124_0
theorem sq124_0 : seek pp124 0 = p124_0 := sk124_0
theorem sq124_28 : seek pp124 28 = p124_28 := sk124_28
theorem sq124_32 : seek pp124 32 = p124_32 := sk124_32
theorem sq124_33 : seek pp124 33 = p124_33 := sk124_33
def pp125 : List EN := p125_0
theorem sq125_0 : seek pp125 0 = p125_0 := sk125_0
theorem sq125_30 : seek pp125 30 = p125_30 := sk125_30
theorem sq125_34 : seek pp125 34 = p125_34 := sk125_34
theorem sq125_35 : seek pp125 35 = p125_35 := sk125_35
def pp126 : List EN := p126_0
theorem sq126_0 : seek pp126 0 = p126_0 := sk126_0
theorem sq126_22 : seek pp126 22 = p126_22 := sk126_22
theorem sq126_23 : seek pp126 23 = p126_23 := sk126_23
set_option maxRecDepth 100000 in
theorem sq126_15 : seek pp126 15 = (15, false, 5, 0, 3, 22, 0) :: (18, false, 0, 1, 0, 0, 0) :: (19, false, 7, 0, 0, 23, 0) :: p126_22 := rfl
def pp127 : List EN := p127_0
theorem sq127_0 : seek pp127 0 = p127_0 := sk127_0
theorem sq127_14 : seek pp127 14 = p127_14 := sk127_14
theorem sq127_29 : seek pp127 29 = p127_29 := sk127_29
theorem sq127_32 : seek pp127 32 = p127_32 := sk127_32
set_option maxRecDepth 100000 in
theorem sq127_9 : seek pp127 9 = (9, false, 5, 0, 1, 14, 0) :: (12, false, 1, 0, 2, 0, 0) :: (13, false, 25, 0, 0, 0, 0) :: p127_14 := rfl
def pp128 : List EN := p128_0
theorem sq128_0 : seek pp128 0 = p128_0 := sk128_0
theorem sq128_2 : seek pp128 2 = p128_2 := sk128_2
theorem sq128_22 : seek pp128 22 = p128_22 := sk128_22
theorem sq128_28 : seek pp128 28 = p128_28 := sk128_28
def pp129 : List EN := p129_0
theorem sq129_0 : seek pp129 0 = p129_0 := sk129_0
set_option maxRecDepth 100000 in
theorem sq129_7 : seek pp129 7 = (7, false, 4, 0, 1, 0, 0) :: (8, false, 25, 0, 0, 0, 0) :: [] := rfl
def pp130 : List EN := p130_0
theorem sq130_0 : seek pp130 0 = p130_0 := sk130_0
theorem sq130_4 : seek pp130 4 = p130_4 := sk130_4
theorem sq130_23 : seek pp130 23 = p130_23 := sk130_23
theorem sq130_29 : seek pp130 29 = p130_29 := sk130_29
def pp131 : List EN := p131_0
theorem sq131_0 : seek pp131 0 = p131_0 := sk131_0
theorem sq131_4 : seek pp131 4 = p131_4 := sk131_4
theorem sq131_25 : seek pp131 25 = p131_25 := sk131_25
def pp132 : List EN := p132_0
theorem sq132_0 : seek pp132 0 = p132_0 := sk132_0
def pp133 : List EN := p133_0
theorem sq133_0 : seek pp133 0 = p133_0 := sk133_0
def pp134 : List EN := p134_0
theorem sq134_0 : seek pp134 0 = p134_0 := sk134_0
theorem sq134_49 : seek pp134 49 = p134_49 := sk134_49
def pp135 : List EN := p135_0
theorem sq135_0 : seek pp135 0 = p135_0 := sk135_0
theorem sq135_12 : seek pp135 12 = p135_12 := sk135_12
theorem sq135_33 : seek pp135 33 = p135_33 := sk135_33
theorem sq135_39 : seek pp135 39 = p135_39 := sk135_39
theorem sq135_52 : seek pp135 52 = p135_52 := sk135_52
theorem sq135_97 : seek pp135 97 = p135_97 := sk135_97
theorem sq135_103 : seek pp135 103 = p135_103 := sk135_103
set_option maxRecDepth 100000 in
theorem sq135_23 : seek pp135 23 = (23, false, 5, 0, 1, 33, 0) :: (26, false, 34, 0, 0, 0, 0) :: (27, false, 1, 0, 3, 0, 0) :: (28, false, 0, (-1), 0, 0, 0) :: (29, false, 0, 0, 0, 0, 0) :: (30, false, 32, 1, 132, 4, 401) :: p135_33 := rfl
set_option maxRecDepth 100000 in
theorem sq135_69 : seek pp135 69 = (69, false, 5, 0, 0, 97, 0) :: (72, false, 34, 0, 0, 0, 0) :: (73, false, 34, 0, 0, 0, 0) :: (74, false, 8, 0, 1, 6, 90) :: (77, false, 1, 0, 4, 0, 0) :: (79, false, 12, 0, 0, 0, 0) :: (80, false, 34, 0, 0, 0, 0) :: (81, false, 8, 0, 1, 7, 93) :: (84, false, 1, 0, 4, 0, 0) :: (86, false, 12, 0, 0, 0, 0) :: (87, false, 34, 0, 0, 0, 0) :: (88, false, 8, 0, 1, 8, 97) :: (91, false, 1, 0, 4, 0, 0) :: (93, false, 12, 0, 0, 0, 0) :: (94, false, 32, 1, 134, 4, 405) :: p135_97 := rfl
def pp136 : List EN := p136_0
theorem sq136_0 : seek pp136 0 = p136_0 := sk136_0
theorem sq136_4 : seek pp136 4 = p136_4 := sk136_4
theorem sq136_33 : seek pp136 33 = p136_33 := sk136_33
theorem sq136_39 : seek pp136 39 = p136_39 := sk136_39
def pp137 : List EN := p137_0
theorem sq137_0 : seek pp137 0 = p137_0 := sk137_0
theorem sq137_4 : seek pp137 4 = p137_4 := sk137_4
theorem sq137_34 : seek pp137 34 = p137_34 := sk137_34
theorem sq137_37 : seek pp137 37 = p137_37 := sk137_37
theorem sq137_43 : seek pp137 43 = p137_43 := sk137_43
def pp138 : List EN := p138_0
theorem sq138_0 : seek pp138 0 = p138_0 := sk138_0
theorem sq138_18 : seek pp138 18 = p138_18 := sk138_18
theorem sq138_20 : seek pp138 20 = p138_20 := sk138_20
theorem sq138_34 : seek pp138 34 = p138_34 := sk138_34
theorem sq138_49 : seek pp138 49 = p138_49 := sk138_49
theorem sq138_66 : seek pp138 66 = p138_66 := sk138_66
theorem sq138_83 : seek pp138 83 = p138_83 := sk138_83
theorem sq138_93 : seek pp138 93 = p138_93 := sk138_93
set_option maxRecDepth 100000 in
theorem sq138_15 : seek pp138 15 = (15, false, 5, 0, 2, 20, 0) :: p138_18 := rfl
set_option maxRecDepth 100000 in
theorem sq138_31 : seek pp138 31 = (31, false, 7, 0, 0, 93, 0) :: p138_34 := rfl
set_option maxRecDepth 100000 in
theorem sq138_46 : seek pp138 46 = (46, false, 7, 0, 0, 93, 0) :: p138_49 := rfl
set_option maxRecDepth 100000 in
theorem sq138_63 : seek pp138 63 = (63, false, 7, 0, 0, 93, 0) :: p138_66 := rfl
set_option maxRecDepth 100000 in
theorem sq138_80 : seek pp138 80 = (80, false, 7, 0, 0, 93, 0) :: p138_83 := rfl
def pp139 : List EN := p139_0
theorem sq139_0 : seek pp139 0 = p139_0 := sk139_0
theorem sq139_15 : seek pp139 15 = p139_15 := sk139_15
theorem sq139_40 : seek pp139 40 = p139_40 := sk139_40
set_option maxRecDepth 100000 in
theorem sq139_33 : seek pp139 33 = (33, false, 17, 0, 0, 0, 0) :: (34, false, 3, 1, 1, 0, 0) :: (37, false, 7, 0, 0, 15, 0) :: p139_40 := rfl
def pp140 : List EN := p140_0
theorem sq140_0 : seek pp140 0 = p140_0 := sk140_0
theorem sq140_43 : seek pp140 43 = p140_43 := sk140_43
theorem sq140_56 : seek pp140 56 = p140_56 := sk140_56
set_option maxRecDepth 100000 in
theorem sq140_21 : seek pp140 21 = (21, false, 34, 0, 0, 0, 0) :: (22, false, 8, 0, 2, 2, 130) :: (25, false, 0, 20, 0, 0, 0) :: (27, false, 6, 0, 3, 43, 0) :: (30, false, 34, 0, 0, 0, 0) :: (31, false, 22, 0, 0, 0, 0) :: (32, false, 8, 0, 2, 2, 130) :: (35, false, 0, 1, 0, 0, 0) :: (36, false, 4, 0, 0, 0, 0) :: (37, false, 9, 0, 2, 2, 130) :: (40, false, 7, 0, 0, 56, 0) :: p140_43 := rfl
def pp141 : List EN := p141_0
theorem sq141_0 : seek pp141 0 = p141_0 := sk141_0
theorem sq141_38 : seek pp141 38 = p141_38 := sk141_38
def pp142 : List EN := p142_0
theorem sq142_0 : seek pp142 0 = p142_0 := sk142_0
def pp143 : List EN := p143_0
theorem sq143_0 : seek pp143 0 = p143_0 := sk143_0
theorem sq143_24 : seek pp143 24 = p143_24 := sk143_24
theorem sq143_83 : seek pp143 83 = p143_83 := sk143_83
theorem sq143_84 : seek pp143 84 = p143_84 := sk143_84
theorem sq143_93 : seek pp143 93 = p143_93 := sk143_93
set_option maxRecDepth 100000 in
theorem sq143_69 : seek pp143 69 = (69, false, 2, 0, 5, 0, 0) :: (71, false, 34, 0, 0, 0, 0) :: (72, false, 1, 0, 5, 0, 0) :: (74, false, 1, 0, 4, 0, 0) :: (76, false, 6, 0, 1, 83, 0) :: (79, false, 0, 1, 0, 0, 0) :: (80, false, 7, 0, 0, 84, 0) :: p143_83 := rfl
def pp144 : List EN := p144_0
theorem sq144_0 : seek pp144 0 = p144_0 := sk144_0
theorem sq144_25 : seek pp144 25 = p144_25 := sk144_25
theorem sq144_27 : seek pp144 27 = p144_27 := sk144_27
set_option maxRecDepth 100000 in
theorem sq144_12 : seek pp144 12 = (12, false, 2, 0, 3, 0, 0) :: (13, false, 1, 0, 3, 0, 0) :: (14, false, 5, 0, 2, 25, 0) :: (17, false, 34, 0, 0, 0, 0) :: (18, false, 1, 0, 3, 0, 0) :: (19, false, 32, 1, 124, 2, 500) :: (22, false, 5, 0, 0, 27, 0) :: p144_25 := rfl
set_option maxRecDepth 100000 in
theorem sq144_22 : seek pp144 22 = (22, false, 5, 0, 0, 27, 0) :: p144_25 := rfl
set_option maxRecDepth 100000 in
theorem sq144_36 : seek pp144 36 = (36, false, 4, 0, 0, 0, 0) :: (37, false, 25, 0, 0, 0, 0) :: [] := rfl
def pp145 : List EN := p145_0
theorem sq145_0 : seek pp145 0 = p145_0 := sk145_0
set_option maxRecDepth 100000 in
theorem sq145_44 : seek pp145 44 = (44, false, 10, 0, 4, 4, 208) :: (47, false, 26, 0, 0, 0, 0) :: [] := rfl
def pp146 : List EN := p146_0
theorem sq146_0 : seek pp146 0 = p146_0 := sk146_0
theorem sq146_15 : seek pp146 15 = p146_15 := sk146_15
theorem sq146_47 : seek pp146 47 = p146_47 := sk146_47
theorem sq146_53 : seek pp146 53 = p146_53 := sk146_53
set_option maxRecDepth 100000 in
theorem sq146_8 : seek pp146 8 = (8, false, 34, 0, 0, 0, 0) :: (9, false, 0, 0, 0, 0, 0) :: (10, false, 9, 0, 4, 2, 205) :: (13, false, 0, 0, 0, 0, 0) :: (14, false, 2, 0, 2, 0, 0) :: p146_15 := rfl
set_option maxRecDepth 100000 in
theorem sq146_38 : seek pp146 38 = (38, false, 5, 0, 0, 47, 0) :: (41, false, 34, 0, 0, 0, 0) :: (42, false, 34, 0, 1, 0, 0) :: (43, false, 1, 0, 2, 0, 0) :: (44, false, 32, 4, 147, 3, 577) :: p146_47 := rfl
def pp147 : List EN := p147_0
theorem sq147_0 : seek pp147 0 = p147_0 := sk147_0
theorem sq147_16 : seek pp147 16 = p147_16 := sk147_16
theorem sq147_48 : seek pp147 48 = p147_48 := sk147_48
theorem sq147_104 : seek pp147 104 = p147_104 := sk147_104
set_option maxRecDepth 100000 in
theorem sq147_14 : seek pp147 14 = (14, false, 0, 0, 0, 0, 0) :: (15, false, 2, 0, 3, 0, 0) :: p147_16 := rfl
def pp148 : List EN := p148_0
theorem sq148_0 : seek pp148 0 = p148_0 := sk148_0
def pp149 : List EN := p149_0
theorem sq149_0 : seek pp149 0 = p149_0 := sk149_0
theorem sq149_13 : seek pp149 13 = p149_13 := sk149_13
theorem sq149_14 : seek pp149 14 = p149_14 := sk149_14
def pp150 : List EN := p150_0
theorem sq150_0 : seek pp150 0 = p150_0 := sk150_0
theorem sq150_17 : seek pp150 17 = p150_17 := sk150_17
theorem sq150_43 : seek pp150 43 = p150_43 := sk150_43
def pp151 : List EN := p151_0
theorem sq151_0 : seek pp151 0 = p151_0 := sk151_0
def pp152 : List EN := p152_0
theorem sq152_0 : seek pp152 0 = p152_0 := sk152_0
theorem sq152_19 : seek pp152 19 = p152_19 := sk152_19
theorem sq152_37 : seek pp152 37 = p152_37 := sk152_37
theorem sq152_38 : seek pp152 38 = p152_38 := sk152_38
def pp153 : List EN := p153_0
theorem sq153_0 : seek pp153 0 = p153_0 := sk153_0
theorem sq153_34 : seek pp153 34 = p153_34 := sk153_34
theorem sq153_35 : seek pp153 35 = p153_35 := sk153_35
def pp154 : List EN := p154_0
theorem sq154_0 : seek pp154 0 = p154_0 := sk154_0
def pp155 : List EN := p155_0
theorem sq155_0 : seek pp155 0 = p155_0 := sk155_0
def pp156 : List EN := p156_0
theorem sq156_0 : seek pp156 0 = p156_0 := sk156_0
theorem sq156_29 : seek pp156 29 = p156_29 := sk156_29
theorem sq156_75 : seek pp156 75 = p156_75 := sk156_75
set_option maxRecDepth 100000 in
theorem sq156_26 : seek pp156 26 = (26, false, 0, 0, 0, 0, 0) :: (27, false, 2, 0, 4, 0, 0) :: p156_29 := rfl
set_option maxRecDepth 100000 in
theorem sq156_69 : seek pp156 69 = (69, false, 3, 1, 4, 0, 0) :: (72, false, 7, 0, 0, 29, 0) :: p156_75 := rfl
def pp157 : List EN := p157_0
theorem sq157_0 : seek pp157 0 = p157_0 := sk157_0
theorem sq157_14 : seek pp157 14 = p157_14 := sk157_14
theorem sq157_35 : seek pp157 35 = p157_35 := sk157_35
theorem sq157_77 : seek pp157 77 = p157_77 := sk157_77
set_option maxRecDepth 100000 in
theorem sq157_6 : seek pp157 6 = (6, false, 2, 0, 4, 0, 0) :: (8, false, 1, 0, 4, 0, 0) :: (10, false, 5, 0, 3, 14, 0) :: (13, false, 26, 0, 0, 0, 0) :: p157_14 := rfl
set_option maxRecDepth 100000 in
theorem sq157_20 : seek pp157 20 = (20, false, 5, 0, 0, 35, 0) :: (23, false, 34, 0, 0, 0, 0) :: (24, false, 8, 0, 6, 4, 172) :: (27, false, 1, 0, 4, 0, 0) :: (29, false, 34, 0, 0, 0, 0) :: (30, false, 8, 0, 6, 5, 173) :: (33, false, 13, 0, 0, 0, 0) :: (34, false, 26, 0, 0, 0, 0) :: p157_35 := rfl
set_option maxRecDepth 100000 in
theorem sq157_56 : seek pp157 56 = (56, false, 32, 6, 158, 3, 525) :: (59, false, 34, 0, 1, 0, 0) :: (60, false, 8, 0, 1, 2, 79) :: (63, false, 1, 0, 4, 0, 0) :: (65, false, 12, 0, 0, 0, 0) :: (66, false, 0, 2, 0, 0, 0) :: (67, false, 6, 0, 1, 77, 0) :: (70, false, 34, 0, 0, 0, 0) :: (71, false, 1, 0, 4, 0, 0) :: (73, false, 1, 0, 3, 0, 0) :: (74, false, 32, 6, 158, 3, 525) :: p157_77 := rfl
set_option maxRecDepth 100000 in
theorem sq157_59 : seek pp157 59 = (59, false, 34, 0, 1, 0, 0) :: (60, false, 8, 0, 1, 2, 79) :: (63, false, 1, 0, 4, 0, 0) :: (65, false, 12, 0, 0, 0, 0) :: (66, false, 0, 2, 0, 0, 0) :: (67, false, 6, 0, 1, 77, 0) :: (70, false, 34, 0, 0, 0, 0) :: (71, false, 1, 0, 4, 0, 0) :: (73, false, 1, 0, 3, 0, 0) :: (74, false, 32, 6, 158, 3, 525) :: p157_77 := rfl
def pp158 : List EN := p158_0
theorem sq158_0 : seek pp158 0 = p158_0 := sk158_0
theorem sq158_59 : seek pp158 59 = p158_59 := sk158_59
def pp159 : List EN := p159_0
theorem sq159_0 : seek pp159 0 = p159_0 := sk159_0
theorem sq159_17 : seek pp159 17 = p159_17 := sk159_17
theorem sq159_18 : seek pp159 18 = p159_18 := sk159_18
def pp160 : List EN := p160_0
theorem sq160_0 : seek pp160 0 = p160_0 := sk160_0
theorem sq160_17 : seek pp160 17 = p160_17 := sk160_17
theorem sq160_18 : seek pp160 18 = p160_18 := sk160_18
def pp161 : List EN := p161_0
theorem sq161_0 : seek pp161 0 = p161_0 := sk161_0
theorem sq161_16 : seek pp161 16 = p161_16 := sk161_16
theorem sq161_20 : seek pp161 20 = p161_20 := sk161_20
theorem sq161_21 : seek pp161 21 = p161_21 := sk161_21
set_option maxRecDepth 100000 in
theorem sq161_13 : seek pp161 13 = (13, false, 5, 0, 0, 20, 0) :: p161_16 := rfl
def pp162 : List EN := p162_0
theorem sq162_0 : seek pp162 0 = p162_0 := sk162_0
theorem sq162_4 : seek pp162 4 = p162_4 := sk162_4
theorem sq162_21 : seek pp162 21 = p162_21 := sk162_21
theorem sq162_27 : seek pp162 27 = p162_27 := sk162_27
set_option maxRecDepth 100000 in
theorem sq162_15 : seek pp162 15 = (15, false, 5, 0, 0, 21, 0) :: (18, false, 3, 1, 1, 0, 0) :: p162_21 := rfl
def pp163 : List EN := p163_0
theorem sq163_0 : seek pp163 0 = p163_0 := sk163_0
theorem sq163_10 : seek pp163 10 = p163_10 := sk163_10
theorem sq163_20 : seek pp163 20 = p163_20 := sk163_20
theorem sq163_35 : seek pp163 35 = p163_35 := sk163_35
theorem sq163_60 : seek pp163 60 = p163_60 := sk163_60
theorem sq163_68 : seek pp163 68 = p163_68 := sk163_68
theorem sq163_74 : seek pp163 74 = p163_74 := sk163_74
theorem sq163_80 : seek pp163 80 = p163_80 := sk163_80
theorem sq163_85 : seek pp163 85 = p163_85 := sk163_85
theorem sq163_108 : seek pp163 108 = p163_108 := sk163_108
set_option maxRecDepth 100000 in
theorem sq163_5 : seek pp163 5 = (5, false, 5, 0, 0, 10, 0) :: (8, false, 0, 0, 0, 0, 0) :: (9, false, 25, 0, 0, 0, 0) :: p163_10 := rfl
set_option maxRecDepth 100000 in
theorem sq163_18 : seek pp163 18 = (18, false, 0, 0, 0, 0, 0) :: (19, false, 2, 0, 3, 0, 0) :: p163_20 := rfl
set_option maxRecDepth 100000 in
theorem sq163_32 : seek pp163 32 = (32, false, 0, 0, 0, 0, 0) :: (33, false, 2, 0, 4, 0, 0) :: p163_35 := rfl
set_option maxRecDepth 100000 in
theorem sq163_48 : seek pp163 48 = (48, false, 5, 0, 1, 60, 0) :: (51, false, 34, 0, 0, 0, 0) :: (52, false, 1, 0, 4, 0, 0) :: (54, false, 32, 6, 160, 2, 563) :: (57, false, 5, 0, 0, 68, 0) :: p163_60 := rfl
set_option maxRecDepth 100000 in
theorem sq163_57 : seek pp163 57 = (57, false, 5, 0, 0, 68, 0) :: p163_60 := rfl
def pp164 : List EN := p164_0
theorem sq164_0 : seek pp164 0 = p164_0 := sk164_0
set_option maxRecDepth 100000 in
theorem sq164_12 : seek pp164 12 = (12, false, 10, 0, 7, 0, 254) :: (15, false, 34, 0, 0, 0, 0) :: (16, false, 21, 0, 6, 0, 252) :: (19, false, 22, 0, 0, 0, 0) :: (20, false, 32, 6, 155, 1, 253) :: (23, false, 10, 0, 7, 1, 255) :: (26, false, 34, 0, 0, 0, 0) :: (27, false, 0, 10, 0, 0, 0) :: (29, false, 19, 0, 0, 0, 0) :: (31, false, 10, 0, 7, 2, 256) :: (34, false, 34, 0, 0, 0, 0) :: (35, false, 0, 0, 0, 0, 0) :: (36, false, 9, 0, 7, 3, 257) :: (39, false, 34, 0, 0, 0, 0) :: (40, false, 0, 0, 0, 0, 0) :: (41, false, 9, 0, 7, 4, 258) :: (44, false, 34, 0, 0, 0, 0) :: (45, false, 0, 0, 0, 0, 0) :: (46, false, 9, 0, 7, 5, 259) :: (49, false, 34, 0, 0, 0, 0) :: (50, false, 0, (-1), 0, 0, 0) :: (51, false, 9, 0, 7, 6, 260) :: (54, false, 26, 0, 0, 0, 0) :: [] := rfl
set_option maxRecDepth 100000 in
theorem sq164_23 : seek pp164 23 = (23, false, 10, 0, 7, 1, 255) :: (26, false, 34, 0, 0, 0, 0) :: (27, false, 0, 10, 0, 0, 0) :: (29, false, 19, 0, 0, 0, 0) :: (31, false, 10, 0, 7, 2, 256) :: (34, false, 34, 0, 0, 0, 0) :: (35, false, 0, 0, 0, 0, 0) :: (36, false, 9, 0, 7, 3, 257) :: (39, false, 34, 0, 0, 0, 0) :: (40, false, 0, 0, 0, 0, 0) :: (41, false, 9, 0, 7, 4, 258) :: (44, false, 34, 0, 0, 0, 0) :: (45, false, 0, 0, 0, 0, 0) :: (46, false, 9, 0, 7, 5, 259) :: (49, false, 34, 0, 0, 0, 0) :: (50, false, 0, (-1), 0, 0, 0) :: (51, false, 9, 0, 7, 6, 260) :: (54, false, 26, 0, 0, 0, 0) :: [] := rfl
def pp165 : List EN := p165_0
theorem sq165_0 : seek pp165 0 = p165_0 := sk165_0
theorem sq165_26 : seek pp165 26 = p165_26 := sk165_26
theorem sq165_57 : seek pp165 57 = p165_57 := sk165_57
set_option maxRecDepth 100000 in
theorem sq165_8 : seek pp165 8 = (8, false, 34, 0, 0, 0, 0) :: (9, false, 34, 0, 0, 0, 0) :: (10, false, 8, 0, 7, 0, 254) :: (13, false, 34, 0, 0, 0, 0) :: (14, false, 8, 0, 7, 2, 256) :: (17, false, 32, 1, 136, 2, 654) :: (20, false, 9, 0, 7, 3, 257) :: (23, false, 0, 0, 0, 0, 0) :: (24, false, 2, 0, 4, 0, 0) :: p165_26 := rfl
set_option maxRecDepth 100000 in
theorem sq165_20 : seek pp165 20 = (20, false, 9, 0, 7, 3, 257) :: (23, false, 0, 0, 0, 0, 0) :: (24, false, 2, 0, 4, 0, 0) :: p165_26 := rfl
set_option maxRecDepth 100000 in
theorem sq165_78 : seek pp165 78 = (78, false, 34, 0, 0, 0, 0) :: (79, false, 8, 0, 7, 6, 260) :: (82, false, 25, 0, 0, 0, 0) :: [] := rfl
def pp166 : List EN := p166_0
theorem sq166_0 : seek pp166 0 = p166_0 := sk166_0
theorem sq166_14 : seek pp166 14 = p166_14 := sk166_14
theorem sq166_15 : seek pp166 15 = p166_15 := sk166_15
theorem sq166_70 : seek pp166 70 = p166_70 := sk166_70
theorem sq166_88 : seek pp166 88 = p166_88 := sk166_88
set_option maxRecDepth 100000 in
theorem sq166_11 : seek pp166 11 = (11, false, 5, 0, 1, 15, 0) :: p166_14 := rfl
set_option maxRecDepth 100000 in
theorem sq166_50 : seek pp166 50 = (50, false, 34, 0, 0, 0, 0) :: (51, false, 8, 0, 7, 1, 255) :: (54, false, 34, 0, 0, 0, 0) :: (55, false, 8, 0, 7, 5, 259) :: (58, false, 32, 6, 161, 2, 673) :: (61, false, 5, 0, 0, 70, 0) :: (64, false, 34, 0, 0, 0, 0) :: (65, false, 1, 0, 1, 0, 0) :: (66, false, 9, 0, 7, 6, 260) :: (69, false, 26, 0, 0, 0, 0) :: p166_70 := rfl
set_option maxRecDepth 100000 in
theorem sq166_61 : seek pp166 61 = (61, false, 5, 0, 0, 70, 0) :: (64, false, 34, 0, 0, 0, 0) :: (65, false, 1, 0, 1, 0, 0) :: (66, false, 9, 0, 7, 6, 260) :: (69, false, 26, 0, 0, 0, 0) :: p166_70 := rfl
set_option maxRecDepth 100000 in
theorem sq166_74 : seek pp166 74 = (74, false, 2, 0, 3, 0, 0) :: (75, false, 1, 0, 3, 0, 0) :: (76, false, 5, 0, 2, 88, 0) :: (79, false, 34, 0, 0, 0, 0) :: (80, false, 1, 0, 3, 0, 0) :: (81, false, 1, 0, 1, 0, 0) :: (82, false, 1, 0, 2, 0, 0) :: (83, false, 0, 1, 0, 0, 0) :: (84, false, 4, 0, 0, 0, 0) :: (85, false, 32, 7, 167, 4, 679) :: p166_88 := rfl
def pp167 : List EN := p167_0
theorem sq167_0 : seek pp167 0 = p167_0 := sk167_0
set_option maxRecDepth 100000 in
theorem sq167_25 : seek pp167 25 = (25, false, 34, 0, 0, 0, 0) :: (26, false, 8, 0, 7, 0, 254) :: (29, false, 1, 0, 4, 0, 0) :: (31, false, 32, 1, 133, 2, 683) :: (34, false, 34, 0, 0, 0, 0) :: (35, false, 1, 0, 2, 0, 0) :: (36, false, 0, 1, 0, 0, 0) :: (37, false, 1, 0, 1, 0, 0) :: (38, false, 4, 0, 5, 0, 0) :: (39, false, 4, 0, 9, 0, 0) :: (40, false, 1, 0, 3, 0, 0) :: (41, false, 32, 7, 166, 3, 658) :: (44, false, 34, 0, 0, 0, 0) :: (45, false, 8, 0, 7, 0, 254) :: (48, false, 1, 0, 4, 0, 0) :: (50, false, 32, 1, 133, 2, 683) :: (53, false, 34, 0, 0, 0, 0) :: (54, false, 8, 0, 7, 0, 254) :: (57, false, 8, 0, 1, 2, 77) :: (60, false, 1, 0, 4, 0, 0) :: (62, false, 0, 0, 0, 0, 0) :: (63, false, 13, 0, 0, 0, 0) :: (64, false, 26, 0, 0, 0, 0) :: [] := rfl
set_option maxRecDepth 100000 in
theorem sq167_34 : seek pp167 34 = (34, false, 34, 0, 0, 0, 0) :: (35, false, 1, 0, 2, 0, 0) :: (36, false, 0, 1, 0, 0, 0) :: (37, false, 1, 0, 1, 0, 0) :: (38, false, 4, 0, 5, 0, 0) :: (39, false, 4, 0, 9, 0, 0) :: (40, false, 1, 0, 3, 0, 0) :: (41, false, 32, 7, 166, 3, 658) :: (44, false, 34, 0, 0, 0, 0) :: (45, false, 8, 0, 7, 0, 254) :: (48, false, 1, 0, 4, 0, 0) :: (50, false, 32, 1, 133, 2, 683) :: (53, false, 34, 0, 0, 0, 0) :: (54, false, 8, 0, 7, 0, 254) :: (57, false, 8, 0, 1, 2, 77) :: (60, false, 1, 0, 4, 0, 0) :: (62, false, 0, 0, 0, 0, 0) :: (63, false, 13, 0, 0, 0, 0) :: (64, false, 26, 0, 0, 0, 0) :: [] := rfl
set_option maxRecDepth 100000 in
theorem sq167_44 : seek pp167 44 = (44, false, 34, 0, 0, 0, 0) :: (45, false, 8, 0, 7, 0, 254) :: (48, false, 1, 0, 4, 0, 0) :: (50, false, 32, 1, 133, 2, 683) :: (53, false, 34, 0, 0, 0, 0) :: (54, false, 8, 0, 7, 0, 254) :: (57, false, 8, 0, 1, 2, 77) :: (60, false, 1, 0, 4, 0, 0) :: (62, false, 0, 0, 0, 0, 0) :: (63, false, 13, 0, 0, 0, 0) :: (64, false, 26, 0, 0, 0, 0) :: [] := rfl
set_option maxRecDepth 100000 in
theorem sq167_53 : seek pp167 53 = (53, false, 34, 0, 0, 0, 0) :: (54, false, 8, 0, 7, 0, 254) :: (57, false, 8, 0, 1, 2, 77) :: (60, false, 1, 0, 4, 0, 0) :: (62, false, 0, 0, 0, 0, 0) :: (63, false, 13, 0, 0, 0, 0) :: (64, false, 26, 0, 0, 0, 0) :: [] := rfl
def pp168 : List EN := p168_0
theorem sq168_0 : seek pp168 0 = p168_0 := sk168_0
theorem sq168_36 : seek pp168 36 = p168_36 := sk168_36
theorem sq168_40 : seek pp168 40 = p168_40 := sk168_40
theorem sq168_41 : seek pp168 41 = p168_41 := sk168_41
set_option maxRecDepth 100000 in
theorem sq168_4 : seek pp168 4 = (4, false, 34, 0, 0, 0, 0) :: (5, false, 8, 0, 7, 6, 260) :: (8, false, 24, 0, 177, 1, 666) :: (11, false, 4, 0, 1, 0, 0) :: (12, false, 2, 0, 2, 0, 0) :: (13, false, 34, 0, 0, 0, 0) :: (14, false, 8, 0, 7, 6, 260) :: (17, false, 5, 0, 2, 36, 0) :: (20, false, 1, 0, 2, 0, 0) :: (21, false, 5, 0, 2, 36, 0) :: (24, false, 1, 0, 2, 0, 0) :: (25, false, 5, 0, 1, 40, 0) :: (28, false, 1, 0, 1, 0, 0) :: (29, false, 34, 0, 0, 0, 0) :: (30, false, 8, 0, 7, 6, 260) :: (33, false, 6, 0, 3, 40, 0) :: p168_36 := rfl
set_option maxRecDepth 100000 in
theorem sq168_11 : seek pp168 11 = (11, false, 4, 0, 1, 0, 0) :: (12, false, 2, 0, 2, 0, 0) :: (13, false, 34, 0, 0, 0, 0) :: (14, false, 8, 0, 7, 6, 260) :: (17, false, 5, 0, 2, 36, 0) :: (20, false, 1, 0, 2, 0, 0) :: (21, false, 5, 0, 2, 36, 0) :: (24, false, 1, 0, 2, 0, 0) :: (25, false, 5, 0, 1, 40, 0) :: (28, false, 1, 0, 1, 0, 0) :: (29, false, 34, 0, 0, 0, 0) :: (30, false, 8, 0, 7, 6, 260) :: (33, false, 6, 0, 3, 40, 0) :: p168_36 := rfl
def pp169 : List EN := p169_0
theorem sq169_0 : seek pp169 0 = p169_0 := sk169_0
theorem sq169_2 : seek pp169 2 = p169_2 := sk169_2
theorem sq169_45 : seek pp169 45 = p169_45 := sk169_45
theorem sq169_51 : seek pp169 51 = p169_51 := sk169_51
set_option maxRecDepth 100000 in
theorem sq169_40 : seek pp169 40 = (40, false, 5, 0, 0, 45, 0) :: (43, false, 1, 0, 1, 0, 0) :: (44, false, 25, 0, 0, 0, 0) :: p169_45 := rfl
def pp170 : List EN := p170_0
theorem sq170_0 : seek pp170 0 = p170_0 := sk170_0
set_option maxRecDepth 100000 in
theorem sq170_12 : seek pp170 12 = (12, false, 10, 0, 8, 0, 305) :: (15, false, 34, 0, 0, 0, 0) :: (16, false, 21, 0, 6, 0, 303) :: (19, false, 22, 0, 0, 0, 0) :: (20, false, 32, 6, 155, 1, 304) :: (23, false, 10, 0, 8, 1, 306) :: (26, false, 34, 0, 0, 0, 0) :: (27, false, 0, 81, 0, 0, 0) :: (29, false, 19, 0, 0, 0, 0) :: (31, false, 10, 0, 8, 2, 307) :: (34, false, 26, 0, 0, 0, 0) :: [] := rfl
set_option maxRecDepth 100000 in
theorem sq170_23 : seek pp170 23 = (23, false, 10, 0, 8, 1, 306) :: (26, false, 34, 0, 0, 0, 0) :: (27, false, 0, 81, 0, 0, 0) :: (29, false, 19, 0, 0, 0, 0) :: (31, false, 10, 0, 8, 2, 307) :: (34, false, 26, 0, 0, 0, 0) :: [] := rfl
def pp171 : List EN := p171_0
theorem sq171_0 : seek pp171 0 = p171_0 := sk171_0
theorem sq171_23 : seek pp171 23 = p171_23 := sk171_23
theorem sq171_37 : seek pp171 37 = p171_37 := sk171_37
theorem sq171_53 : seek pp171 53 = p171_53 := sk171_53
theorem sq171_69 : seek pp171 69 = p171_69 := sk171_69
theorem sq171_71 : seek pp171 71 = p171_71 := sk171_71
theorem sq171_95 : seek pp171 95 = p171_95 := sk171_95
set_option maxRecDepth 100000 in
theorem sq171_9 : seek pp171 9 = (9, false, 34, 0, 0, 0, 0) :: (10, false, 8, 0, 8, 0, 305) :: (13, false, 8, 0, 9, 0, 283) :: (16, false, 1, 0, 2, 0, 0) :: (17, false, 12, 0, 0, 0, 0) :: (18, false, 5, 0, 3, 23, 0) :: (21, false, 0, (-1), 0, 0, 0) :: (22, false, 25, 0, 0, 0, 0) :: p171_23 := rfl
set_option maxRecDepth 100000 in
theorem sq171_31 : seek pp171 31 = (31, false, 1, 0, 2, 0, 0) :: (32, false, 2, 0, 4, 0, 0) :: (34, false, 0, 0, 0, 0, 0) :: (35, false, 2, 0, 5, 0, 0) :: p171_37 := rfl
set_option maxRecDepth 100000 in
theorem sq171_87 : seek pp171 87 = (87, false, 2, 0, 4, 0, 0) :: (89, false, 3, 1, 5, 0, 0) :: (92, false, 7, 0, 0, 37, 0) :: p171_95 := rfl
def pp172 : List EN := p172_0
theorem sq172_0 : seek pp172 0 = p172_0 := sk172_0
theorem sq172_3 : seek pp172 3 = p172_3 := sk172_3
theorem sq172_57 : seek pp172 57 = p172_57 := sk172_57
theorem sq172_63 : seek pp172 63 = p172_63 := sk172_63
theorem sq172_83 : seek pp172 83 = p172_83 := sk172_83
theorem sq172_90 : seek pp172 90 = p172_90 := sk172_90
set_option maxRecDepth 100000 in
theorem sq172_16 : seek pp172 16 = (16, false, 2, 0, 5, 0, 0) :: (18, false, 1, 0, 5, 0, 0) :: (20, false, 5, 0, 2, 57, 0) :: (23, false, 34, 0, 1, 0, 0) :: (24, false, 1, 0, 5, 0, 0) :: (26, false, 32, 1, 125, 2, 740) :: (29, false, 5, 0, 0, 57, 0) :: (32, false, 34, 0, 0, 0, 0) :: (33, false, 8, 0, 8, 1, 306) :: (36, false, 34, 0, 1, 0, 0) :: (37, false, 1, 0, 2, 0, 0) :: (38, false, 1, 0, 4, 0, 0) :: (40, false, 32, 6, 156, 4, 741) :: (43, false, 34, 0, 0, 0, 0) :: (44, false, 8, 0, 8, 1, 306) :: (47, false, 1, 0, 3, 0, 0) :: (48, false, 32, 6, 159, 2, 742) :: (51, false, 5, 0, 0, 57, 0) :: (54, false, 1, 0, 5, 0, 0) :: (56, false, 25, 0, 0, 0, 0) :: p172_57 := rfl
set_option maxRecDepth 100000 in
theorem sq172_29 : seek pp172 29 = (29, false, 5, 0, 0, 57, 0) :: (32, false, 34, 0, 0, 0, 0) :: (33, false, 8, 0, 8, 1, 306) :: (36, false, 34, 0, 1, 0, 0) :: (37, false, 1, 0, 2, 0, 0) :: (38, false, 1, 0, 4, 0, 0) :: (40, false, 32, 6, 156, 4, 741) :: (43, false, 34, 0, 0, 0, 0) :: (44, false, 8, 0, 8, 1, 306) :: (47, false, 1, 0, 3, 0, 0) :: (48, false, 32, 6, 159, 2, 742) :: (51, false, 5, 0, 0, 57, 0) :: (54, false, 1, 0, 5, 0, 0) :: (56, false, 25, 0, 0, 0, 0) :: p172_57 := rfl
set_option maxRecDepth 100000 in
theorem sq172_43 : seek pp172 43 = (43, false, 34, 0, 0, 0, 0) :: (44, false, 8, 0, 8, 1, 306) :: (47, false, 1, 0, 3, 0, 0) :: (48, false, 32, 6, 159, 2, 742) :: (51, false, 5, 0, 0, 57, 0) :: (54, false, 1, 0, 5, 0, 0) :: (56, false, 25, 0, 0, 0, 0) :: p172_57 := rfl
set_option maxRecDepth 100000 in
theorem sq172_51 : seek pp172 51 = (51, false, 5, 0, 0, 57, 0) :: (54, false, 1, 0, 5, 0, 0) :: (56, false, 25, 0, 0, 0, 0) :: p172_57 := rfl
set_option maxRecDepth 100000 in
theorem sq172_72 : seek pp172 72 = (72, false, 2, 0, 4, 0, 0) :: (74, false, 1, 0, 4, 0, 0) :: (76, false, 5, 0, 3, 83, 0) :: (79, false, 0, (-1), 0, 0, 0) :: (80, false, 7, 0, 0, 90, 0) :: p172_83 := rfl
def pp173 : List EN := p173_0
theorem sq173_0 : seek pp173 0 = p173_0 := sk173_0
def pp174 : List EN := p174_0
theorem sq174_0 : seek pp174 0 = p174_0 := sk174_0
theorem sq174_22 : seek pp174 22 = p174_22 := sk174_22
theorem sq174_39 : seek pp174 39 = p174_39 := sk174_39
theorem sq174_81 : seek pp174 81 = p174_81 := sk174_81
theorem sq174_87 : seek pp174 87 = p174_87 := sk174_87
set_option maxRecDepth 100000 in
theorem sq174_8 : seek pp174 8 = (8, false, 34, 0, 0, 0, 0) :: (9, false, 0, 0, 0, 0, 0) :: (10, false, 9, 0, 9, 1, 285) :: (13, false, 34, 0, 0, 0, 0) :: (14, false, 34, 0, 1, 0, 0) :: (15, false, 1, 0, 2, 0, 0) :: (16, false, 0, 0, 0, 0, 0) :: (17, false, 32, 9, 175, 4, 703) :: (20, false, 0, 0, 0, 0, 0) :: (21, false, 2, 0, 3, 0, 0) :: p174_22 := rfl
set_option maxRecDepth 100000 in
theorem sq174_20 : seek pp174 20 = (20, false, 0, 0, 0, 0, 0) :: (21, false, 2, 0, 3, 0, 0) :: p174_22 := rfl
set_option maxRecDepth 100000 in
theorem sq174_59 : seek pp174 59 = (59, false, 34, 0, 0, 0, 0) :: (60, false, 8, 0, 9, 0, 282) :: (63, false, 34, 0, 0, 0, 0) :: (64, false, 8, 0, 9, 2, 287) :: (67, false, 1, 0, 3, 0, 0) :: (68, false, 12, 0, 0, 0, 0) :: (69, false, 12, 0, 0, 0, 0) :: (70, false, 0, 1, 0, 0, 0) :: (71, false, 4, 0, 0, 0, 0) :: (72, false, 32, 9, 175, 4, 703) :: (75, false, 3, 1, 4, 0, 0) :: (78, false, 7, 0, 0, 39, 0) :: p174_81 := rfl
set_option maxRecDepth 100000 in
theorem sq174_75 : seek pp174 75 = (75, false, 3, 1, 4, 0, 0) :: (78, false, 7, 0, 0, 39, 0) :: p174_81 := rfl
def pp175 : List EN := p175_0
theorem sq175_0 : seek pp175 0 = p175_0 := sk175_0
theorem sq175_57 : seek pp175 57 = p175_57 := sk175_57
set_option maxRecDepth 100000 in
theorem sq175_18 : seek pp175 18 = (18, false, 5, 0, 0, 57, 0) :: (21, false, 34, 0, 0, 0, 0) :: (22, false, 8, 0, 9, 1, 285) :: (25, false, 0, 81, 0, 0, 0) :: (27, false, 6, 0, 3, 57, 0) :: (30, false, 34, 0, 0, 0, 0) :: (31, false, 8, 0, 9, 0, 282) :: (34, false, 1, 0, 2, 0, 0) :: (35, false, 1, 0, 3, 0, 0) :: (36, false, 13, 0, 0, 0, 0) :: (37, false, 34, 0, 0, 0, 0) :: (38, false, 8, 0, 9, 2, 287) :: (41, false, 34, 0, 0, 0, 0) :: (42, false, 8, 0, 9, 1, 285) :: (45, false, 1, 0, 2, 0, 0) :: (46, false, 13, 0, 0, 0, 0) :: (47, false, 34, 0, 0, 0, 0) :: (48, false, 22, 0, 0, 0, 0) :: (49, false, 8, 0, 9, 1, 285) :: (52, false, 0, 1, 0, 0, 0) :: (53, false, 4, 0, 0, 0, 0) :: (54, false, 9, 0, 9, 1, 285) :: p175_57 := rfl
def pp176 : List EN := p176_0
theorem sq176_0 : seek pp176 0 = p176_0 := sk176_0
theorem sq176_11 : seek pp176 11 = p176_11 := sk176_11
theorem sq176_13 : seek pp176 13 = p176_13 := sk176_13
theorem sq176_51 : seek pp176 51 = p176_51 := sk176_51
theorem sq176_57 : seek pp176 57 = p176_57 := sk176_57
set_option maxRecDepth 100000 in
theorem sq176_24 : seek pp176 24 = (24, false, 2, 0, 4, 0, 0) :: (26, false, 1, 0, 4, 0, 0) :: (28, false, 5, 0, 2, 51, 0) :: (31, false, 34, 0, 0, 0, 0) :: (32, false, 8, 0, 9, 0, 282) :: (35, false, 1, 0, 4, 0, 0) :: (37, false, 12, 0, 0, 0, 0) :: (38, false, 34, 0, 0, 0, 0) :: (39, false, 8, 0, 9, 0, 282) :: (42, false, 1, 0, 2, 0, 0) :: (43, false, 12, 0, 0, 0, 0) :: (44, false, 0, 1, 0, 0, 0) :: (45, false, 4, 0, 1, 0, 0) :: (46, false, 6, 0, 1, 51, 0) :: (49, false, 1, 0, 3, 0, 0) :: (50, false, 25, 0, 0, 0, 0) :: p176_51 := rfl
def pp177 : List EN := p177_0
theorem sq177_0 : seek pp177 0 = p177_0 := sk177_0
def pp178 : List EN := p178_0
theorem sq178_0 : seek pp178 0 = p178_0 := sk178_0
theorem sq178_5 : seek pp178 5 = p178_5 := sk178_5
theorem sq178_20 : seek pp178 20 = p178_20 := sk178_20
