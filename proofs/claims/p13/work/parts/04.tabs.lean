/-! tables for the abstract machine, by program out of the claim; their checks by the kernel -/
def ab_cn (o : Nat) : String := match o with
  | 0 => RX0
  | 1 => RX1
  | 2 => RX2
  | 3 => RX3
  | 4 => RX4
  | 5 => RX5
  | 6 => RX6
  | 7 => RX7
  | 8 => RX8
  | 9 => RX9
  | _ => RL
def ab_ws : List Cond := lw_tbl.filter goodWord
def ab_has (p : Nat) (w : Cond) : Bool := decide (lw_tbl[p]? = some w) && goodWord w
theorem ab_has_ok {p : Nat} {w : Cond} (h : ab_has p w = true) : w ∈ ab_ws := by
  unfold ab_has at h
  rw [Bool.and_eq_true, decide_eq_true_eq] at h
  exact List.mem_filter.mpr ⟨List.mem_of_getElem? h.1, h.2⟩
def ab_zall {α : Type} (f : α → Nat → Bool) : List α → List Nat → Bool
  | [], _ => true
  | x :: t, p :: u => f x p && ab_zall f t u
  | _ :: _, [] => false
theorem ab_zall_ok {α : Type} {f : α → Nat → Bool} : ∀ {l : List α} {u : List Nat}, ab_zall f l u = true → ∀ x ∈ l, ∃ p, f x p = true
  | [], _, _, x, hx => by cases hx
  | y :: t, p :: u, h, x, hx => by
    unfold ab_zall at h
    rw [Bool.and_eq_true] at h
    rcases List.mem_cons.mp hx with e | e
    · exact ⟨p, by rw [e]; exact h.1⟩
    · exact ab_zall_ok h.2 x e
  | _ :: _, [], h, _, _ => by cases h
def ab_fT (o : Nat) : List (Nat × Nat × Nat) := match o with
  | 0 => [(42, (1, 0)), (45, (1, 1)), (39, (1, 2)), (48, (1, 3)), (51, (1, 7)), (90, (2, 1)), (12, (0, 0)), (18, (0, 1)), (62, (0, 2)), (22, (0, 3)), (26, (0, 4)), (71, (0, 5)), (74, (0, 6)), (78, (7, 3))]
  | 1 => [(9, (1, 0)), (15, (1, 1)), (18, (1, 2)), (21, (1, 3)), (24, (1, 4)), (27, (1, 5)), (30, (1, 6)), (33, (1, 7)), (36, (1, 8)), (39, (1, 9)), (44, (1, 10)), (52, (1, 11)), (58, (1, 12)), (107, (1, 13)), (122, (1, 14)), (55, (1, 15)), (48, (1, 16)), (110, (1, 17)), (94, (0, 5)), (87, (0, 6))]
  | 2 => [(7, (2, 0)), (13, (2, 1)), (17, (7, 0))]
  | 3 => [(60, (1, 0)), (67, (1, 2)), (109, (1, 7)), (155, (1, 8)), (158, (1, 9)), (73, (1, 11)), (189, (1, 12)), (152, (1, 14)), (70, (1, 17)), (125, (0, 2)), (76, (0, 3)), (56, (0, 5)), (79, (0, 6)), (12, (3, 0)), (21, (3, 1)), (25, (3, 2)), (29, (3, 3)), (32, (3, 4)), (35, (3, 5)), (38, (3, 6)), (42, (3, 7)), (45, (3, 8)), (145, (3, 9)), (118, (3, 10)), (97, (3, 11)), (100, (3, 12)), (135, (3, 13)), (142, (3, 14)), (164, (3, 15)), (167, (3, 16)), (173, (3, 17)), (176, (3, 18)), (179, (3, 19))]
  | 4 => [(23, (1, 2)), (34, (1, 3)), (37, (1, 4)), (40, (1, 5)), (43, (1, 6)), (52, (1, 7)), (46, (1, 12)), (49, (1, 13)), (11, (4, 0)), (55, (4, 1)), (15, (4, 2))]
  | 5 => [(213, (7, 0)), (117, (7, 2)), (169, (7, 4)), (9, (5, 0)), (20, (5, 1)), (30, (5, 2)), (198, (5, 3)), (47, (5, 4)), (69, (5, 5)), (41, (5, 6)), (44, (5, 7)), (34, (5, 8))]
  | 6 => [(104, (1, 2)), (90, (1, 7)), (93, (1, 13)), (86, (2, 1)), (114, (0, 3)), (14, (6, 0)), (21, (6, 1)), (25, (6, 2)), (33, (6, 3)), (67, (6, 4)), (70, (6, 5)), (29, (6, 6)), (36, (7, 3)), (107, (7, 4))]
  | 7 => [(15, (7, 0)), (21, (7, 1)), (24, (7, 2)), (28, (7, 3)), (31, (7, 4))]
  | 8 => [(92, (1, 0)), (98, (1, 1)), (95, (1, 2)), (101, (1, 3)), (128, (1, 4)), (131, (1, 5)), (134, (1, 6)), (143, (1, 7)), (254, (1, 8)), (257, (1, 9)), (166, (1, 10)), (223, (1, 11)), (125, (1, 12)), (305, (1, 13)), (251, (1, 14)), (159, (1, 15)), (194, (1, 16)), (308, (4, 2)), (104, (0, 2)), (107, (0, 3)), (114, (0, 5)), (117, (0, 6)), (191, (6, 6)), (180, (3, 1)), (212, (3, 3)), (233, (3, 7)), (266, (3, 8)), (263, (3, 9)), (230, (3, 10)), (217, (3, 11)), (220, (3, 12)), (245, (3, 13)), (248, (3, 14)), (272, (3, 15)), (275, (3, 16)), (285, (3, 17)), (288, (3, 18)), (291, (3, 19)), (322, (5, 0)), (170, (5, 1)), (146, (8, 0)), (10, (8, 1)), (16, (8, 2)), (20, (8, 3)), (24, (8, 4)), (295, (8, 5)), (30, (8, 6)), (37, (8, 7)), (44, (8, 8)), (51, (8, 9)), (58, (8, 10)), (62, (8, 11)), (197, (8, 12)), (66, (8, 13)), (70, (8, 14)), (156, (8, 15))]
  | 9 => [(3, (9, 0)), (7, (9, 1)), (24, (9, 2)), (27, (9, 3)), (30, (9, 4)), (34, (9, 5)), (148, (9, 6)), (37, (9, 7)), (223, (9, 8)), (226, (9, 9)), (197, (9, 10)), (41, (9, 11)), (44, (9, 12)), (145, (9, 13)), (47, (9, 14)), (50, (9, 15)), (53, (9, 16)), (56, (9, 17)), (151, (9, 18)), (172, (9, 19)), (181, (9, 20)), (165, (9, 21)), (251, (9, 22)), (248, (9, 23)), (261, (9, 24)), (281, (9, 25)), (59, (9, 26)), (287, (9, 27)), (290, (9, 28)), (62, (9, 29)), (309, (9, 30)), (323, (9, 31)), (65, (9, 32)), (68, (9, 33)), (11, (9, 34)), (71, (9, 35)), (74, (9, 36)), (77, (9, 37)), (80, (9, 38)), (84, (9, 39)), (87, (9, 40)), (90, (9, 41)), (411, (9, 42)), (423, (9, 43)), (417, (9, 44)), (420, (9, 45)), (426, (9, 46)), (93, (9, 47)), (96, (9, 48)), (99, (9, 49)), (459, (9, 50)), (446, (9, 51))]
  | _ => []
def ab_fH (o : Nat) : List (Nat) := match o with
  | 0 => [145, 148, 153, 158, 170, 275, 281, 282, 283, 286, 290, 293, 297, 457]
  | 1 => [143, 147, 150, 156, 160, 163, 166, 169, 175, 178, 181, 183, 187, 192, 195, 197, 199, 202, 294, 298]
  | 2 => [272, 273, 450]
  | 3 => [144, 152, 174, 176, 179, 184, 189, 194, 201, 285, 287, 291, 295, 357, 358, 360, 361, 363, 364, 365, 366, 368, 370, 372, 374, 376, 378, 380, 382, 384, 386, 388, 390]
  | 4 => [151, 157, 161, 164, 167, 171, 186, 190, 248, 249, 250]
  | 5 => [451, 454, 460, 472, 474, 476, 477, 478, 479, 480, 481, 482]
  | 6 => [155, 172, 191, 274, 289, 324, 325, 326, 327, 328, 329, 330, 456, 459]
  | 7 => [449, 452, 453, 455, 458]
  | 8 => [146, 149, 154, 159, 162, 165, 168, 173, 177, 180, 182, 185, 188, 193, 196, 198, 200, 251, 284, 288, 292, 296, 331, 359, 362, 367, 369, 371, 373, 375, 377, 379, 381, 383, 385, 387, 389, 391, 473, 475, 502, 503, 504, 505, 506, 507, 508, 509, 510, 511, 512, 513, 514, 515, 516, 517]
  | 9 => [1131, 1132, 1133, 1134, 1135, 1136, 1137, 1138, 1139, 1140, 1141, 1142, 1143, 1144, 1145, 1146, 1147, 1148, 1149, 1150, 1151, 1152, 1153, 1154, 1155, 1156, 1157, 1158, 1159, 1160, 1161, 1162, 1163, 1164, 1165, 1166, 1167, 1168, 1169, 1170, 1171, 1172, 1173, 1174, 1175, 1176, 1177, 1178, 1179, 1180, 1181, 1182]
  | _ => []
def ab_nT (o : Nat) : List (Nat × Nat) := match o with
  | 0 => [(9, 2)]
  | 3 => [(9, 0), (18, 1)]
  | 5 => [(15, 7)]
  | 6 => [(11, 2), (18, 0)]
  | 7 => [(16, 7)]
  | 8 => [(7, 1), (27, 4), (34, 0), (41, 6), (48, 3), (55, 5)]
  | 10 => [(7, 8), (10, 9)]
  | _ => []
def ab_nH (o : Nat) : List (Nat) := match o with
  | 0 => [266]
  | 3 => [353, 355]
  | 5 => [440]
  | 6 => [320, 322]
  | 7 => [850]
  | 8 => [135, 242, 260, 314, 347, 434]
  | 10 => [127, 1125]
  | _ => []
def ab_aT (o : Nat) : List (Nat × Nat) := match o with
  | 1 => [(42, 5)]
  | 8 => [(7, 4)]
  | _ => []
def ab_aH (o : Nat) : List (Nat) := match o with
  | 1 => [141]
  | 8 => [135]
  | _ => []
def ab_sT (o : Nat) : List (Nat × Nat) := match o with
  | 8 => [(137, 2), (140, 1)]
  | _ => []
def ab_sH (o : Nat) : List (Nat) := match o with
  | 8 => [627, 629]
  | _ => []
def ab_cT (o : Nat) : List (Nat × Value) := match o with
  | 1 => [(101, Value.int 99999)]
  | 2 => [(32, Value.long 1000000000), (34, Value.long (-1000000000))]
  | 3 => [(131, Value.long 1000000000000), (133, Value.long 10), (198, Value.long 1103), (200, Value.long 12345), (202, Value.long 1000003)]
  | 5 => [(94, Value.ref 2000000), (96, Value.ref 2000001), (98, Value.ref 2000002), (100, Value.ref 2000003), (186, Value.ref 2000004), (190, Value.ref 2000005), (192, Value.ref 2000006), (194, Value.ref 2000007), (196, Value.ref 2000008), (176, Value.ref 2000009), (178, Value.ref 2000010), (172, Value.ref 2000011), (180, Value.ref 2000012), (182, Value.ref 2000013), (184, Value.ref 2000014), (188, Value.ref 2000015), (102, Value.ref 2000016), (104, Value.ref 2000017), (109, Value.ref 2000018), (115, Value.ref 2000019), (144, Value.ref 2000020), (142, Value.ref 2000021), (134, Value.ref 2000022), (72, Value.ref 2000023), (78, Value.ref 2000024), (80, Value.ref 2000025), (82, Value.ref 2000026)]
  | 8 => [(236, Value.long (-1)), (294, Value.int 1000000)]
  | 9 => [(257, Value.long 1000000000), (259, Value.long (-1000000000)), (164, Value.int 1000000), (319, Value.int 99999), (389, Value.long (-1)), (391, Value.long 1000000000000), (387, Value.long 10), (429, Value.long (-1000000)), (431, Value.long 1000000), (444, Value.long 1103), (449, Value.long 12345), (451, Value.long 1000003)]
  | _ => []
def ab_cH (o : Nat) : List (Nat) := match o with
  | 1 => [914]
  | 2 => [600, 601]
  | 3 => [1026, 1027, 1100, 1101, 1102]
  | 8 => [1020, 1092]
  | 9 => [1374, 1375, 1468, 1569, 1660, 1661, 1666, 1737, 1738, 1747, 1748, 1749]
  | _ => []
def ab_pT (o : Nat) : List (Nat × Nat) := match o with
  | 0 => [(65, 0)]
  | 1 => [(116, 3), (102, 0)]
  | 2 => [(26, 1)]
  | 3 => [(103, 3), (112, 1), (121, 2), (128, 0)]
  | 4 => [(28, 3)]
  | 5 => [(24, 0)]
  | 6 => [(45, 0)]
  | 7 => [(9, 1), (37, 3)]
  | _ => []
def ab_pH (o : Nat) : List (Nat) := match o with
  | 0 => [606]
  | 1 => [864, 915]
  | 2 => [602]
  | 3 => [1003, 1012, 1013, 1025]
  | 4 => [898]
  | 5 => [663]
  | 6 => [870]
  | 7 => [446, 852]
  | _ => []
def ab_oT (o : Nat) : List (Nat × Unit) := match o with
  | 0 => [(3, ())]
  | 1 => [(3, ())]
  | 2 => [(1, ())]
  | 3 => [(3, ())]
  | 4 => [(3, ())]
  | 5 => [(3, ())]
  | 6 => [(5, ())]
  | 7 => [(3, ())]
  | 8 => [(1, ())]
  | 9 => [(18, ())]
  | _ => []
def ab_oH (o : Nat) : List (Nat) := match o with
  | 0 => [265]
  | 1 => [140]
  | 2 => [271]
  | 3 => [352]
  | 4 => [247]
  | 5 => [439]
  | 6 => [319]
  | 7 => [445]
  | 8 => [132]
  | 9 => [1130]
  | _ => []
def ab_mT (o : Nat) : List (Nat × Nat × Nat × Nat) := match o with
  | 0 => [(11, (17, 0, 3)), (29, (5, 1, 0)), (35, (6, 0, 0)), (54, (3, 3, 0)), (83, (77, 2, 0)), (86, (18, 3, 0)), (58, (119, 3, 4))]
  | 1 => [(61, (10, 2, 0)), (77, (5, 1, 0)), (81, (2, 3, 0)), (91, (1, 0, 0)), (97, (11, 2, 0)), (65, (13, 0, 0)), (113, (12, 2, 0)), (69, (14, 3, 0)), (73, (15, 2, 0))]
  | 2 => [(22, (19, 3, 0))]
  | 3 => [(11, (0, 0, 3)), (20, (4, 0, 3)), (48, (5, 1, 0)), (52, (2, 3, 0)), (63, (16, 1, 0)), (83, (1, 0, 0)), (86, (11, 2, 0)), (90, (12, 2, 0)), (93, (24, 2, 0)), (138, (22, 4, 0)), (148, (29, 1, 0)), (161, (28, 1, 0)), (170, (31, 1, 0)), (182, (10, 2, 0)), (186, (13, 0, 0)), (192, (35, 1, 2)), (195, (15, 2, 0))]
  | 4 => [(19, (41, 1, 0))]
  | 5 => [(17, (73, 2, 1)), (38, (74, 0, 0)), (50, (61, 0, 0)), (201, (62, 1, 2)), (53, (60, 0, 0)), (56, (75, 0, 0)), (59, (45, 0, 0)), (74, (63, 1, 0)), (84, (76, 2, 0)), (87, (48, 1, 0)), (128, (52, 1, 0)), (152, (53, 1, 0)), (155, (54, 1, 0)), (65, (64, 1, 0)), (146, (58, 1, 0)), (149, (59, 1, 0)), (111, (65, 0, 0)), (158, (57, 0, 0)), (161, (56, 0, 0)), (125, (66, 2, 0)), (166, (55, 1, 0)), (106, (46, 0, 0)), (91, (47, 0, 0)), (120, (49, 1, 0)), (131, (50, 1, 0)), (139, (51, 1, 0)), (136, (67, 1, 0)), (62, (44, 0, 0))]
  | 6 => [(13, (17, 0, 3)), (20, (0, 0, 3)), (41, (77, 2, 0)), (50, (72, 2, 0)), (96, (7, 0, 0)), (100, (5, 1, 0)), (110, (2, 3, 0)), (54, (70, 2, 0)), (82, (18, 3, 0)), (58, (71, 2, 0)), (61, (38, 2, 0)), (73, (9, 5, 0)), (79, (39, 0, 0))]
  | 7 => [(34, (73, 2, 1))]
  | 8 => [(9, (4, 0, 3)), (29, (36, 0, 3)), (36, (0, 0, 3)), (43, (68, 0, 3)), (50, (20, 0, 3)), (57, (42, 0, 3)), (73, (8, 2, 0)), (77, (37, 0, 0)), (80, (115, 1, 0)), (84, (5, 1, 0)), (88, (2, 3, 0)), (110, (1, 0, 0)), (121, (21, 2, 0)), (149, (117, 1, 0)), (153, (118, 1, 0)), (162, (43, 2, 0)), (174, (78, 0, 0)), (183, (16, 1, 0)), (187, (69, 3, 0)), (200, (116, 4, 0)), (311, (38, 2, 0)), (315, (9, 5, 0)), (319, (39, 0, 0)), (204, (40, 1, 0)), (208, (22, 4, 0)), (214, (23, 1, 0)), (226, (25, 1, 0)), (238, (26, 4, 0)), (242, (27, 1, 0)), (260, (28, 1, 0)), (269, (30, 1, 0)), (278, (32, 2, 0)), (281, (33, 2, 0)), (298, (34, 3, 0)), (302, (7, 0, 0))]
  | 9 => [(102, (120, 3, 2)), (106, (124, 1, 0)), (14, (125, 1, 0)), (109, (126, 1, 0)), (112, (134, 2, 0)), (116, (135, 2, 0)), (123, (133, 1, 0)), (127, (184, 1, 0)), (312, (183, 6, 0)), (254, (172, 1, 0)), (278, (175, 1, 0)), (264, (176, 1, 0)), (272, (177, 1, 0)), (213, (155, 1, 2)), (275, (173, 1, 0)), (284, (178, 2, 0)), (293, (189, 0, 0)), (268, (174, 2, 0)), (306, (179, 1, 0)), (297, (180, 1, 0)), (300, (181, 1, 0)), (303, (182, 1, 0)), (130, (185, 1, 0)), (133, (186, 1, 0)), (316, (121, 2, 2)), (120, (187, 1, 0)), (136, (188, 1, 0)), (139, (137, 1, 0)), (142, (140, 2, 2)), (241, (167, 1, 0)), (238, (166, 0, 0)), (232, (149, 1, 0)), (154, (146, 1, 2)), (157, (147, 1, 2)), (160, (148, 2, 0)), (235, (159, 0, 0)), (201, (158, 0, 0)), (175, (152, 1, 0)), (168, (150, 0, 0)), (184, (163, 1, 0)), (217, (164, 1, 0)), (220, (165, 1, 0)), (178, (151, 0, 0)), (188, (153, 1, 0)), (229, (154, 0, 0)), (194, (156, 2, 0)), (191, (160, 1, 0)), (207, (161, 1, 0)), (210, (162, 1, 0)), (204, (157, 0, 0)), (245, (168, 1, 0)), (344, (198, 1, 0)), (329, (190, 1, 0)), (332, (195, 1, 0)), (335, (192, 1, 0)), (320, (191, 2, 0)), (347, (197, 1, 0)), (350, (199, 0, 0)), (338, (194, 0, 0)), (326, (193, 2, 0)), (353, (201, 3, 0)), (341, (200, 2, 0)), (357, (202, 2, 0)), (372, (208, 2, 0)), (363, (129, 1, 0)), (366, (207, 0, 0)), (360, (127, 2, 2)), (369, (130, 1, 0)), (375, (210, 1, 0)), (378, (212, 0, 0)), (381, (213, 1, 0)), (384, (123, 1, 2)), (393, (215, 2, 0)), (399, (221, 1, 0)), (396, (220, 0, 0)), (405, (223, 1, 0)), (402, (122, 2, 2)), (408, (226, 1, 0)), (414, (233, 1, 0)), (437, (230, 2, 0)), (441, (232, 0, 0)), (433, (231, 1, 2)), (453, (234, 1, 0)), (456, (235, 2, 0))]
  | 10 => [(9, (79, 0, 1)), (13, (80, 2, 0)), (18, (81, 2, 0)), (22, (82, 2, 0)), (26, (83, 2, 0)), (30, (84, 5, 0)), (35, (85, 1, 0)), (40, (86, 0, 0)), (45, (87, 0, 0)), (49, (88, 0, 0)), (53, (89, 0, 0)), (57, (90, 0, 0)), (61, (91, 0, 0)), (65, (92, 1, 0)), (69, (93, 1, 0)), (73, (94, 0, 0)), (77, (95, 3, 0)), (82, (96, 2, 0)), (86, (97, 0, 0)), (90, (98, 1, 0)), (94, (99, 1, 0)), (98, (100, 1, 0)), (102, (101, 3, 0)), (107, (102, 1, 0)), (111, (103, 2, 0)), (115, (104, 0, 0)), (119, (105, 1, 0)), (123, (106, 1, 0)), (127, (107, 1, 0)), (131, (108, 2, 0)), (135, (109, 2, 0)), (139, (110, 2, 0)), (143, (111, 1, 0)), (147, (112, 1, 0)), (151, (113, 1, 0)), (155, (114, 0, 0)), (12, (128, 0, 1)), (146, (131, 1, 0)), (150, (132, 1, 0)), (17, (136, 2, 0)), (21, (138, 2, 0)), (25, (139, 2, 0)), (29, (141, 2, 0)), (44, (142, 0, 0)), (48, (143, 0, 0)), (34, (144, 5, 0)), (39, (145, 1, 0)), (52, (169, 0, 0)), (60, (170, 0, 0)), (68, (171, 1, 0)), (89, (196, 0, 0)), (72, (203, 1, 0)), (76, (204, 0, 0)), (81, (205, 3, 0)), (85, (206, 2, 0)), (93, (209, 1, 0)), (97, (211, 1, 0)), (101, (214, 1, 0)), (106, (216, 3, 0)), (110, (217, 1, 0)), (114, (218, 2, 0)), (118, (219, 0, 0)), (122, (222, 1, 0)), (126, (224, 1, 0)), (130, (225, 1, 0)), (134, (227, 2, 0)), (64, (228, 0, 0)), (56, (229, 0, 0)), (138, (236, 2, 0)), (142, (237, 2, 0)), (154, (238, 1, 0)), (158, (239, 0, 0))]
  | _ => []
def ab_mH (o : Nat) : List (Nat) := match o with
  | 0 => [268, 579, 580, 584, 588, 592, 603]
  | 1 => [903, 907, 908, 909, 910, 916, 920, 924, 928]
  | 2 => [596]
  | 3 => [354, 356, 617, 618, 987, 988, 989, 990, 999, 1036, 1053, 1065, 1066, 1086, 1087, 1097, 1103]
  | 4 => [894]
  | 5 => [442, 664, 668, 672, 675, 679, 683, 688, 743, 747, 751, 755, 759, 763, 767, 771, 775, 779, 790, 799, 803, 809, 814, 819, 823, 827, 833, 838]
  | 6 => [321, 323, 869, 871, 875, 879, 880, 881, 885, 886, 890, 899, 932]
  | 7 => [851]
  | 8 => [137, 244, 262, 316, 349, 436, 555, 559, 563, 571, 575, 609, 613, 635, 647, 659, 846, 860, 865, 952, 956, 957, 958, 975, 983, 995, 1008, 1021, 1032, 1049, 1061, 1074, 1082, 1093, 1108]
  | 9 => [1292, 1295, 1299, 1307, 1315, 1319, 1327, 1331, 1335, 1339, 1343, 1347, 1351, 1355, 1358, 1362, 1366, 1370, 1376, 1380, 1384, 1388, 1392, 1396, 1400, 1403, 1407, 1411, 1423, 1446, 1450, 1454, 1458, 1461, 1464, 1469, 1473, 1477, 1481, 1485, 1489, 1493, 1497, 1501, 1505, 1509, 1513, 1517, 1521, 1525, 1529, 1549, 1553, 1557, 1561, 1565, 1570, 1578, 1582, 1586, 1594, 1598, 1606, 1614, 1618, 1622, 1626, 1629, 1637, 1645, 1649, 1653, 1662, 1683, 1687, 1695, 1699, 1710, 1722, 1726, 1730, 1734, 1743, 1750]
  | 10 => [129, 551, 567, 619, 623, 631, 639, 643, 651, 655, 856, 936, 940, 944, 948, 959, 963, 967, 971, 979, 991, 1004, 1016, 1028, 1037, 1041, 1045, 1057, 1070, 1078, 1088, 1104, 1109, 1113, 1117, 1121, 1127, 1288, 1303, 1311, 1323, 1415, 1419, 1426, 1430, 1434, 1438, 1442, 1533, 1537, 1541, 1545, 1574, 1590, 1602, 1610, 1633, 1641, 1656, 1667, 1671, 1675, 1679, 1691, 1702, 1706, 1714, 1718, 1739, 1754, 1758, 1762]
  | _ => []
def ab_strs : List (Nat × Nat × String) := [(5, 94, "reckon"), (5, 96, "pass"), (5, 98, "lend"), (5, 100, "grow"), (5, 186, "day"), (5, 190, "done"), (5, 192, "latest"), (5, 194, "sea"), (5, 196, "walking"), (5, 176, "count"), (5, 178, "over"), (5, 172, "parish"), (5, 180, "below"), (5, 182, "depth"), (5, 184, "walked"), (5, 188, "mood"), (5, 102, "to"), (5, 104, "by"), (5, 109, "times"), (5, 115, "if"), (5, 144, "not"), (5, 142, "and"), (5, 134, "or"), (5, 72, "tens"), (5, 78, "stays"), (5, 80, "steps"), (5, 82, "bars")]
def ab_strK : List (Nat × Nat × Nat × String) := [(2000000, 5, 94, "reckon"), (2000001, 5, 96, "pass"), (2000002, 5, 98, "lend"), (2000003, 5, 100, "grow"), (2000004, 5, 186, "day"), (2000005, 5, 190, "done"), (2000006, 5, 192, "latest"), (2000007, 5, 194, "sea"), (2000008, 5, 196, "walking"), (2000009, 5, 176, "count"), (2000010, 5, 178, "over"), (2000011, 5, 172, "parish"), (2000012, 5, 180, "below"), (2000013, 5, 182, "depth"), (2000014, 5, 184, "walked"), (2000015, 5, 188, "mood"), (2000016, 5, 102, "to"), (2000017, 5, 104, "by"), (2000018, 5, 109, "times"), (2000019, 5, 115, "if"), (2000020, 5, 144, "not"), (2000021, 5, 142, "and"), (2000022, 5, 134, "or"), (2000023, 5, 72, "tens"), (2000024, 5, 78, "stays"), (2000025, 5, 80, "steps"), (2000026, 5, 82, "bars")]
def ab_nests : List (String × Nat × MethodName × String) := [("OverByTens", 9, ⟨"OverByTens$Land", "<init>", "()V"⟩, "OverByTens"), ("OverByTens", 29, ⟨"OverByTens$Past", "<init>", "()V"⟩, "OverByTens"), ("OverByTens", 36, ⟨"OverByTens$Court", "<init>", "()V"⟩, "OverByTens"), ("OverByTens$Court", 11, ⟨"OverByTens$Machine", "<init>", "()V"⟩, "OverByTens"), ("OverByTens", 43, ⟨"OverByTens$Runner", "<init>", "()V"⟩, "OverByTens"), ("OverByTens$Runner", 13, ⟨"OverByTens$Machine", "<init>", "()V"⟩, "OverByTens"), ("OverByTens$Runner", 20, ⟨"OverByTens$Court", "<init>", "()V"⟩, "OverByTens"), ("OverByTens", 50, ⟨"OverByTens$Paper", "<init>", "()V"⟩, "OverByTens"), ("OverByTens$Paper", 11, ⟨"OverByTens$Court", "<init>", "()V"⟩, "OverByTens"), ("OverByTens$Paper", 20, ⟨"OverByTens$Land", "<init>", "()V"⟩, "OverByTens"), ("OverByTens", 57, ⟨"OverByTens$Reader", "<init>", "()V"⟩, "OverByTens"), ("OverByTens$Court", 58, ⟨"OverByTens", "bounded", "(III)I"⟩, "OverByTens")]
def ab_stats : List (String × String × String × Nat) := [("OverByTens", "TERM_LEAST", "[I", 1), ("OverByTens", "TERM_MOST", "[I", 2)]
def ab_ys_0 : List (MethodName) := [yX0_init, yX0_walkers, yX0_ask, yX0_latestOf, yX1_init, yX1_has, yX1_lawInForce, yX1_walking, yX1_addParish, yX1_act, yX1_sendFrom, yX1_leave, yX1_arrive, yX1_passDay, yX1_lendMen, yX1_growBy, yX1_takeFrom, yX2_init, yX2_value, yX2_combined, yX3_init, yX3_stepsToSea, yX3_atOnce, yX3_findFewest, yX3_walkBySet, yX3_findLent, yX3_partsOver, yX3_findBest, yX3_findHidden, yX3_isAsHeard, yX3_findLook, yX3_mostAlike, yX3_movedBits, yX3_findFlow, yX3_drawDays, yX3_drawnNext, yX4_init, yX4_clear, yX4_note, yX4_keep]
def ab_ys_1 : List (MethodName) := [yX4_takeBack, yX4_slotAt, yX5_init, yX5_read, yX5_readRule, yX5_readOrder, yX5_readTimes, yX5_readCondition, yX5_readWholeSum, yX5_readTest, yX5_readBoth, yX5_readPlain, yX5_readSum, yX5_readTerm, yX5_readPart, yX5_readWhose, yX5_ruleWord, yX5_orderWord, yX5_enter, yX5_close, yX5_fail, yX5_step, yX5_kindOf, yX5_is, yX5_isSign, yX5_numberHere, yX5_emit, yX5_aim, yX6_init, yX6_runAll, yX6_isWanted, yX6_sumsAreWhole, yX6_fillWords, yX7_init, yX7_clear, yX7_openClause, yX7_put, yX7_part, yX7_trimmed, yX8_init]
def ab_ys_2 : List (MethodName) := [yX8_parish, yX8_of, yX8_group, yX8_terms, yX8_feed, yX8_end, yX8_row, yX8_stones, yX8_law, yX8_orders, yX8_fault, yX8_stopped, yX8_force, yX8_reckon, yX8_pass, yX8_lend, yX8_grow, yX8_undo, yX8_once, yX8_fewest, yX8_lent, yX8_odds, yX8_best, yX8_hear, yX8_forget, yX8_hidden, yX8_look, yX8_moved, yX8_flow, yX8_years, yX8_drawn, yX8_image, yX8_back, yX8_count, yX8_status, yX8_settle, yX8_actNow, yX8_putFour, yX8_addFromTape, yX8_bounded]
def ab_ys_3 : List (MethodName) := [yX9_lies, yX9_lesser, yX9_greater, yX9_sizeOf, yX9_refuses, yX9_good, yX9_settled, yX9_isIn, yX9_init, yX9_laysAside, yX9_takesBack, yX9_image, yX9_back, yX9_isParish, yX9_canParish, yX9_addsParish, yX9_parish, yX9_wayOf, yX9_of, yX9_group, yX9_isTerm, yX9_terms, yX9_row, yX9_stones, yX9_feed, yX9_end, yX9_isSmall, yX9_isDigit, yX9_wordOf, yX9_splits, yX9_fine, yX9_faults, yX9_takes0, yX9_must, yX9_leaf, yX9_sign, yX9_mustNumber, yX9_readClause, yX9_readOrder, yX9_readOne]
def ab_ys_4 : List (MethodName) := [yX9_readTest, yX9_readBoth, yX9_readPlain, yX9_readSum, yX9_readTerm, yX9_readPart, yX9_reads, yX9_readsAs, yX9_lays, yX9_law, yX9_fault, yX9_force, yX9_codeAt, yX9_passes0, yX9_bounded, yX9_sumOf, yX9_termOf, yX9_partOf, yX9_orderValue, yX9_testOf, yX9_bothOf, yX9_plainOf, yX9_positiveOf, yX9_tells, yX9_tensOf, yX9_overOf, yX9_walkersOf, yX9_stepsOf, yX9_isBarred, yX9_walking, yX9_hasRoom, yX9_walksOff, yX9_reckons, yX9_arrives, yX9_dayPasses, yX9_keeps, yX9_undo, yX9_goodOr, yX9_reckonsKept, yX9_passesKept]
def ab_ys_5 : List (MethodName) := [yX9_areBeside, yX9_lendsKept, yX9_growsKept, yX9_reckon, yX9_pass, yX9_lend, yX9_grow, yX9_allOnce, yX9_onceWith, yX9_once, yX9_walkBy, yX9_fewest, yX9_laysAbove, yX9_goesDown, yX9_lent, yX9_spreads, yX9_odds, yX9_best, yX9_hear, yX9_forget, yX9_isAllHeard, yX9_isHidden, yX9_hidden, yX9_mostShown, yX9_look, yX9_moved, yX9_canReckon, yX9_flow, yX9_stopped, yX9_orders, yX9_goesAlong, yX9_small, yX9_obeys, yX9_runs, yX9_draws, yX9_happens, yX9_years, yX9_drawn, yX9_count, yX9_status]
def ab_ys_6 : List (MethodName) := [yL_law]
def ab_ys : List (MethodName) := ab_ys_0 ++ (ab_ys_1 ++ (ab_ys_2 ++ (ab_ys_3 ++ (ab_ys_4 ++ (ab_ys_5 ++ (ab_ys_6))))))
def ab_ms_0 : List (Nat × Nat × Nat × Bool × Option FieldType) := [(1, 0, 0, false, none), (1, 0, 0, false, (some .int)), (5, 0, 3, false, none), (7, 0, 3, false, (some .int)), (1, 1, 0, false, none), (2, 1, 1, false, (some .boolean)), (1, 1, 0, false, (some (.object "OverByTens$Text"))), (3, 1, 0, false, (some .int)), (3, 1, 2, false, (some .int)), (6, 1, 5, false, (some .int)), (4, 1, 2, false, (some .int)), (3, 1, 2, false, none), (3, 1, 2, false, none), (4, 1, 0, false, (some .int)), (5, 1, 3, false, (some .int)), (4, 1, 2, false, (some .int)), (3, 1, 1, false, none), (1, 2, 0, false, none), (8, 2, 3, false, (some .int)), (8, 2, 3, false, (some .int)), (1, 3, 0, false, none), (6, 3, 2, false, (some .int)), (6, 3, 4, false, (some .int)), (5, 3, 1, false, none), (5, 3, 2, false, (some .int)), (6, 3, 1, false, (some .boolean)), (13, 3, 4, false, (some .long)), (4, 3, 1, false, none), (3, 3, 1, false, none), (4, 3, 1, false, (some .boolean)), (4, 3, 1, false, none), (6, 3, 1, false, (some .int)), (5, 3, 2, false, (some .int)), (5, 3, 2, false, none), (9, 3, 3, false, (some .int)), (1, 3, 1, true, (some .int)), (1, 4, 0, false, none), (1, 4, 0, false, none), (4, 4, 2, false, none), (1, 4, 0, false, none)]
def ab_ms_1 : List (Nat × Nat × Nat × Bool × Option FieldType) := [(3, 4, 1, false, (some .int)), (2, 4, 1, false, (some .int)), (1, 5, 0, false, none), (4, 5, 2, false, (some .int)), (2, 5, 0, false, none), (2, 5, 0, false, none), (2, 5, 0, false, none), (1, 5, 0, false, none), (2, 5, 1, false, none), (4, 5, 1, false, none), (4, 5, 1, false, none), (4, 5, 1, false, none), (4, 5, 1, false, none), (4, 5, 1, false, none), (5, 5, 1, false, none), (3, 5, 1, false, none), (1, 5, 0, false, (some .int)), (1, 5, 0, false, (some .int)), (2, 5, 1, false, (some .boolean)), (2, 5, 1, false, none), (1, 5, 0, false, none), (2, 5, 0, false, none), (1, 5, 1, true, (some .int)), (3, 5, 1, false, (some .boolean)), (2, 5, 1, false, (some .boolean)), (3, 5, 0, false, (some .int)), (4, 5, 2, false, (some .int)), (2, 5, 1, false, none), (1, 6, 0, false, none), (9, 6, 3, false, (some .int)), (4, 6, 2, false, (some .boolean)), (3, 6, 2, false, (some .boolean)), (4, 6, 2, false, none), (3, 7, 2, false, none), (1, 7, 0, false, none), (2, 7, 0, false, none), (4, 7, 2, false, none), (4, 7, 2, false, (some .int)), (2, 7, 0, false, (some (.object "OverByTens$Text"))), (1, 8, 0, false, none)]
def ab_ms_2 : List (Nat × Nat × Nat × Bool × Option FieldType) := [(4, 8, 2, false, (some .int)), (3, 8, 2, false, (some .int)), (3, 8, 2, false, (some .int)), (4, 8, 2, false, (some .int)), (6, 8, 5, false, (some .int)), (2, 8, 1, false, (some .int)), (4, 8, 0, false, (some .int)), (1, 8, 0, false, (some .int)), (2, 8, 0, false, (some .int)), (2, 8, 0, false, (some .int)), (1, 8, 0, false, (some .int)), (1, 8, 0, false, (some .int)), (3, 8, 1, false, (some .int)), (2, 8, 1, false, (some .int)), (1, 8, 0, false, (some .int)), (4, 8, 3, false, (some .int)), (3, 8, 2, false, (some .int)), (2, 8, 0, false, (some .int)), (3, 8, 1, false, (some .int)), (2, 8, 1, false, (some .int)), (2, 8, 1, false, (some .int)), (4, 8, 3, false, (some .long)), (2, 8, 1, false, (some .int)), (3, 8, 2, false, (some .int)), (2, 8, 0, false, (some .int)), (2, 8, 1, false, (some .int)), (2, 8, 1, false, (some .int)), (2, 8, 1, false, (some .int)), (3, 8, 2, false, (some .int)), (3, 8, 2, false, (some .int)), (3, 8, 2, false, (some .int)), (2, 8, 1, false, (some .int)), (2, 8, 1, false, (some .int)), (2, 8, 1, false, (some .int)), (1, 8, 0, false, (some .int)), (2, 8, 1, false, (some .int)), (6, 8, 4, false, (some .int)), (3, 8, 1, false, none), (3, 8, 1, false, (some .boolean)), (3, 8, 3, true, (some .int))]
def ab_ms_3 : List (Nat × Nat × Nat × Bool × Option FieldType) := [(3, 9, 3, true, (some .boolean)), (2, 9, 2, true, (some .int)), (2, 9, 2, true, (some .int)), (1, 9, 1, true, (some .int)), (2, 9, 1, false, (some .int)), (2, 9, 1, false, (some .int)), (2, 9, 1, false, (some .int)), (2, 9, 2, true, (some .boolean)), (1, 9, 0, false, none), (3, 9, 1, false, none), (3, 9, 1, false, none), (3, 9, 1, false, (some .int)), (3, 9, 1, false, (some .int)), (2, 9, 1, false, (some .boolean)), (3, 9, 2, false, (some .boolean)), (4, 9, 2, false, none), (3, 9, 2, false, (some .int)), (4, 9, 1, false, (some .int)), (3, 9, 2, false, (some .int)), (3, 9, 2, false, (some .int)), (2, 9, 2, true, (some .boolean)), (5, 9, 2, false, (some .int)), (8, 9, 0, false, (some .int)), (1, 9, 0, false, (some .int)), (7, 9, 5, false, (some .int)), (2, 9, 1, false, (some .int)), (1, 9, 1, true, (some .boolean)), (1, 9, 1, true, (some .boolean)), (8, 9, 2, false, (some .int)), (6, 9, 1, false, none), (1, 9, 0, false, (some .boolean)), (1, 9, 0, false, none), (3, 9, 1, false, (some .boolean)), (2, 9, 1, false, none), (1, 9, 0, false, none), (1, 9, 1, true, (some .int)), (3, 9, 2, false, none), (1, 9, 0, false, none), (1, 9, 0, false, none), (1, 9, 0, false, none)]
def ab_ms_4 : List (Nat × Nat × Nat × Bool × Option FieldType) := [(2, 9, 1, false, none), (2, 9, 1, false, none), (4, 9, 1, false, none), (2, 9, 1, false, none), (2, 9, 1, false, none), (3, 9, 1, false, none), (2, 9, 0, false, (some .boolean)), (2, 9, 1, false, (some .boolean)), (3, 9, 1, false, none), (1, 9, 0, false, (some .int)), (1, 9, 0, false, (some .int)), (3, 9, 1, false, (some .int)), (2, 9, 1, false, (some .int)), (3, 9, 1, false, (some .boolean)), (4, 9, 2, false, (some .long)), (7, 9, 1, false, (some .long)), (7, 9, 1, false, (some .long)), (4, 9, 1, false, (some .long)), (3, 9, 2, false, (some .int)), (4, 9, 1, false, (some .boolean)), (4, 9, 1, false, (some .boolean)), (3, 9, 1, false, (some .boolean)), (7, 9, 1, false, (some .boolean)), (14, 9, 6, false, (some .int)), (2, 9, 1, false, (some .int)), (2, 9, 1, false, (some .int)), (3, 9, 1, false, (some .int)), (2, 9, 1, false, (some .int)), (2, 9, 1, false, (some .boolean)), (3, 9, 0, false, (some .int)), (2, 9, 1, false, (some .boolean)), (3, 9, 2, false, none), (5, 9, 1, false, (some .int)), (4, 9, 2, false, none), (6, 9, 0, false, (some .int)), (4, 9, 1, false, none), (3, 9, 0, false, (some .int)), (2, 9, 1, false, (some .int)), (2, 9, 1, false, (some .int)), (1, 9, 0, false, (some .int))]
def ab_ms_5 : List (Nat × Nat × Nat × Bool × Option FieldType) := [(3, 9, 2, false, (some .boolean)), (4, 9, 3, false, (some .int)), (3, 9, 2, false, (some .int)), (2, 9, 1, false, (some .int)), (1, 9, 0, false, (some .int)), (4, 9, 3, false, (some .int)), (3, 9, 2, false, (some .int)), (3, 9, 0, false, (some .int)), (4, 9, 2, false, (some .int)), (3, 9, 1, false, (some .int)), (5, 9, 1, false, (some .int)), (7, 9, 1, false, (some .int)), (3, 9, 0, false, none), (3, 9, 1, false, (some .int)), (4, 9, 1, false, (some .int)), (7, 9, 2, false, none), (6, 9, 3, false, (some .long)), (6, 9, 1, false, (some .int)), (4, 9, 2, false, (some .int)), (2, 9, 0, false, (some .int)), (3, 9, 0, false, (some .boolean)), (2, 9, 1, false, (some .boolean)), (4, 9, 1, false, (some .int)), (4, 9, 1, false, (some .int)), (7, 9, 1, false, (some .int)), (4, 9, 1, false, (some .int)), (2, 9, 1, false, (some .boolean)), (7, 9, 2, false, (some .int)), (1, 9, 0, false, (some .int)), (5, 9, 0, false, (some .int)), (5, 9, 2, false, none), (2, 9, 1, true, (some .int)), (4, 9, 0, false, (some .int)), (5, 9, 1, false, (some .boolean)), (2, 9, 1, false, (some .int)), (3, 9, 2, false, none), (5, 9, 2, false, (some .int)), (3, 9, 2, false, (some .int)), (2, 9, 1, false, (some .int)), (1, 9, 0, false, (some .int))]
def ab_ms_6 : List (Nat × Nat × Nat × Bool × Option FieldType) := [(4, 10, 1, true, (some .boolean))]
def ab_ms : List (Nat × Nat × Nat × Bool × Option FieldType) := ab_ms_0 ++ (ab_ms_1 ++ (ab_ms_2 ++ (ab_ms_3 ++ (ab_ms_4 ++ (ab_ms_5 ++ (ab_ms_6))))))
def ab_jh_0 : List (Nat × Nat × Nat × Nat) := [(264, 114, 263, 0), (612, 114, 610, 611), (578, 114, 576, 577), (587, 114, 586, 1), (139, 112, 138, 0), (574, 112, 572, 573), (583, 112, 581, 582), (878, 112, 876, 877), (558, 112, 556, 557), (902, 112, 900, 901), (906, 112, 904, 905), (913, 112, 911, 912), (923, 112, 921, 922), (919, 112, 917, 918), (927, 112, 925, 926), (931, 112, 929, 930), (863, 112, 861, 862), (270, 115, 269, 0), (595, 115, 593, 594), (599, 115, 598, 2), (351, 117, 350, 0), (616, 117, 614, 615), (986, 117, 984, 985), (998, 117, 996, 997), (1002, 117, 1001, 33), (1011, 117, 1009, 1010), (1024, 117, 1022, 1023), (1035, 117, 1033, 1034), (1052, 117, 1050, 1051), (1056, 117, 1055, 34), (1064, 117, 1062, 1063), (1069, 117, 1068, 35), (1077, 117, 1075, 1076), (1085, 117, 1083, 1084), (1096, 117, 1094, 1095), (1099, 117, 1098, 0), (246, 113, 245, 0), (562, 113, 560, 561), (893, 113, 891, 892), (935, 113, 933, 934)]
def ab_jh_1 : List (Nat × Nat × Nat × Nat) := [(978, 113, 976, 977), (897, 113, 896, 31), (438, 118, 437, 0), (662, 118, 660, 661), (841, 118, 840, 27), (686, 118, 685, 7), (812, 118, 811, 21), (817, 118, 816, 22), (750, 118, 749, 9), (822, 118, 821, 23), (826, 118, 825, 24), (830, 118, 829, 25), (754, 118, 753, 10), (758, 118, 757, 11), (762, 118, 761, 12), (806, 118, 805, 20), (793, 118, 792, 18), (782, 118, 781, 17), (770, 118, 769, 14), (774, 118, 773, 15), (678, 118, 677, 6), (671, 118, 670, 5), (674, 118, 673, 0), (691, 118, 690, 8), (766, 118, 765, 13), (778, 118, 777, 16), (802, 118, 801, 19), (836, 118, 835, 26), (318, 116, 317, 0), (868, 116, 866, 867), (884, 116, 883, 29), (889, 116, 888, 30), (874, 116, 873, 28), (444, 119, 443, 0), (667, 119, 665, 666), (682, 119, 680, 681), (746, 119, 744, 745), (591, 119, 589, 590), (849, 119, 847, 848), (131, 111, 130, 0)]
def ab_jh_2 : List (Nat × Nat × Nat × Nat) := [(554, 111, 552, 553), (570, 111, 568, 569), (622, 111, 620, 621), (626, 111, 624, 625), (634, 111, 632, 633), (642, 111, 640, 641), (646, 111, 644, 645), (654, 111, 652, 653), (658, 111, 656, 657), (859, 111, 857, 858), (939, 111, 937, 938), (943, 111, 941, 942), (947, 111, 945, 946), (951, 111, 949, 950), (962, 111, 960, 961), (966, 111, 964, 965), (970, 111, 968, 969), (974, 111, 972, 973), (982, 111, 980, 981), (994, 111, 992, 993), (1007, 111, 1005, 1006), (1019, 111, 1017, 1018), (1031, 111, 1029, 1030), (1040, 111, 1038, 1039), (1044, 111, 1042, 1043), (1048, 111, 1046, 1047), (1060, 111, 1058, 1059), (1073, 111, 1071, 1072), (1081, 111, 1079, 1080), (1091, 111, 1089, 1090), (1107, 111, 1105, 1106), (1112, 111, 1110, 1111), (1116, 111, 1114, 1115), (1120, 111, 1118, 1119), (1124, 111, 1122, 1123), (566, 111, 565, 0), (955, 111, 954, 32), (638, 111, 637, 3), (650, 111, 649, 4), (605, 111, 604, 0)]
def ab_jh_3 : List (Nat × Nat × Nat × Nat) := [(1294, 121, 1293, 0), (1402, 121, 1401, 0), (1701, 121, 1700, 0), (1655, 121, 1654, 0), (1298, 121, 1297, 36), (1302, 121, 1301, 37), (1310, 121, 1309, 38), (1628, 121, 1627, 0), (1129, 121, 1128, 0), (1621, 121, 1620, 94), (1632, 121, 1631, 96), (1291, 121, 1289, 1290), (1306, 121, 1304, 1305), (1330, 121, 1329, 41), (1318, 121, 1317, 39), (1322, 121, 1321, 40), (1314, 121, 1312, 1313), (1414, 121, 1413, 60), (1326, 121, 1324, 1325), (1418, 121, 1416, 1417), (1425, 121, 1424, 0), (1422, 121, 1420, 1421), (1429, 121, 1427, 1428), (1433, 121, 1431, 1432), (1437, 121, 1435, 1436), (1441, 121, 1439, 1440), (1460, 121, 1459, 0), (1463, 121, 1462, 0), (1467, 121, 1466, 64), (1457, 121, 1456, 63), (1484, 121, 1483, 68), (1500, 121, 1499, 72), (1480, 121, 1479, 67), (1504, 121, 1503, 73), (1508, 121, 1507, 74), (1357, 121, 1356, 0), (1512, 121, 1511, 75), (1528, 121, 1527, 79), (1476, 121, 1475, 66), (1472, 121, 1471, 65)]
def ab_jh_4 : List (Nat × Nat × Nat × Nat) := [(1516, 121, 1515, 76), (1520, 121, 1519, 77), (1524, 121, 1523, 78), (1488, 121, 1487, 69), (1492, 121, 1491, 70), (1496, 121, 1495, 71), (1453, 121, 1452, 62), (1449, 121, 1448, 61), (1532, 121, 1531, 80), (1445, 121, 1443, 1444), (1536, 121, 1534, 1535), (1540, 121, 1538, 1539), (1342, 121, 1341, 44), (1361, 121, 1360, 48), (1373, 121, 1372, 51), (1346, 121, 1345, 45), (1350, 121, 1349, 46), (1354, 121, 1353, 47), (1365, 121, 1364, 49), (1379, 121, 1378, 52), (1383, 121, 1382, 53), (1387, 121, 1386, 54), (1391, 121, 1390, 55), (1338, 121, 1337, 43), (1334, 121, 1333, 42), (1395, 121, 1394, 56), (1399, 121, 1398, 57), (1406, 121, 1405, 58), (1410, 121, 1409, 59), (1369, 121, 1368, 50), (1556, 121, 1555, 82), (1568, 121, 1567, 85), (1564, 121, 1563, 84), (1589, 121, 1588, 89), (1585, 121, 1584, 88), (1560, 121, 1559, 83), (1544, 121, 1542, 1543), (1573, 121, 1572, 86), (1552, 121, 1551, 81), (1581, 121, 1580, 87)]
def ab_jh_5 : List (Nat × Nat × Nat × Nat) := [(1601, 121, 1600, 91), (1597, 121, 1596, 90), (1609, 121, 1608, 92), (1548, 121, 1546, 1547), (1577, 121, 1575, 1576), (1593, 121, 1591, 1592), (1605, 121, 1603, 1604), (1625, 121, 1624, 95), (1617, 121, 1616, 93), (1613, 121, 1611, 1612), (1640, 121, 1639, 97), (1636, 121, 1634, 1635), (1648, 121, 1647, 98), (1652, 121, 1651, 99), (1644, 121, 1642, 1643), (1665, 121, 1664, 100), (1659, 121, 1657, 1658), (1670, 121, 1668, 1669), (1674, 121, 1672, 1673), (1678, 121, 1676, 1677), (1690, 121, 1689, 102), (1686, 121, 1685, 101), (1682, 121, 1680, 1681), (1698, 121, 1697, 103), (1694, 121, 1692, 1693), (1705, 121, 1703, 1704), (1713, 121, 1712, 104), (1709, 121, 1707, 1708), (1717, 121, 1715, 1716), (1721, 121, 1719, 1720), (1729, 121, 1728, 106), (1736, 121, 1735, 0), (1733, 121, 1732, 107), (1725, 121, 1724, 105), (1746, 121, 1745, 108), (1753, 121, 1752, 109), (1742, 121, 1740, 1741), (1757, 121, 1755, 1756), (1761, 121, 1759, 1760), (1765, 121, 1763, 1764)]
def ab_jh_6 : List (Nat × Nat × Nat × Nat) := [(0, 0, 0, 0)]
def ab_jh : List (Nat × Nat × Nat × Nat) := ab_jh_0 ++ (ab_jh_1 ++ (ab_jh_2 ++ (ab_jh_3 ++ (ab_jh_4 ++ (ab_jh_5 ++ (ab_jh_6))))))
def ab_nm : Nat := 241
def ab_y (j : Nat) : MethodName := ab_ys.getD j yL_law
def ab_cw (j : Nat) : Option Cond := lw_tbl[(ab_jh.getD j (0, 0, 0, 0)).1]?
def ab_b (j : Nat) : ByteArray := match ab_cw j with
  | some (.code _ b _ _) => b
  | _ => ⟨#[]⟩
def ab_m (j : Nat) : Nat × Nat × Nat × Bool × Option FieldType := ab_ms.getD j (0, 0, 0, true, none)
def ab_nL (j : Nat) : Nat := (ab_m j).1
def ab_ow (j : Nat) : Nat := (ab_m j).2.1
def ab_na (j : Nat) : Nat := (ab_m j).2.2.1
def ab_stc (j : Nat) : Bool := (ab_m j).2.2.2.1
def ab_ret (j : Nat) : Option FieldType := (ab_m j).2.2.2.2
def ab_ini (j : Nat) : Bool := (ab_y j).name == "<init>"
def ab_fOk (o : Nat) (q : Nat × Nat × Nat) (p : Nat) : Bool := match vwCl[q.2.1]? with
  | some (C, T, N) => decide (q.2.2 < N) && ab_has p (.fieldLink (ab_cn o) q.1 C (T q.2.2).2.1 (T q.2.2).2.2.1)
  | none => false
def ab_nOk (o : Nat) (q : Nat × Nat) (p : Nat) : Bool := match vwCl[q.2]? with
  | some (C, _, _) => ab_has p (.classLink (ab_cn o) q.1 C)
  | none => false
def ab_aOk (o : Nat) (q : Nat × Nat) (p : Nat) : Bool := (q.2 == 4 && ab_has p (.classLink (ab_cn o) q.1 RX1)) || (q.2 == 5 && ab_has p (.classLink (ab_cn o) q.1 RX7))
def ab_sOk (o : Nat) (q : Nat × Nat) (p : Nat) : Bool := match ab_stats[q.2 - 1]? with
  | some (C, n, d, j) => j == q.2 && ab_has p (.fieldLink (ab_cn o) q.1 C n d)
  | none => false
def ab_cOk (o : Nat) (q : Nat × Value) (p : Nat) : Bool := match q.2 with
  | .int v => ab_has p (.constant (ab_cn o) q.1 v)
  | .long v => ab_has p (.constantLong (ab_cn o) q.1 v)
  | .ref a => ab_strK.any (fun t => t.1 == a && t.2.1 == o && t.2.2.1 == q.1)
  | _ => false
def ab_pName (k : Nat) : MethodName := match k with
  | 0 => Lib.Math.min.name
  | 1 => Lib.Math.max.name
  | 2 => Lib.Math.abs.name
  | _ => arraycopyName
def ab_pOk (o : Nat) (q : Nat × Nat) (p : Nat) : Bool := decide (q.2 < 4) && ab_has p (.methodLink (ab_cn o) q.1 (ab_pName q.2))
def ab_oOk (o : Nat) (q : Nat × Unit) (p : Nat) : Bool := ab_has p (.methodLink (ab_cn o) q.1 Lib.objectInit)
/-- kinds of calls: 0 virtual, 1 special, 2 static, 3 special of a nest mate, 4 static of a nest mate -/
def ab_mOk (o : Nat) (q : Nat × Nat × Nat × Nat) (p : Nat) : Bool := decide (q.2.1 < ab_nm) && decide (q.2.2.1 = ab_na q.2.1) && (match q.2.2.2 with
  | 0 => ab_has p (.methodLink (ab_cn o) q.1 (ab_y q.2.1)) && !ab_stc q.2.1 && !ab_ini q.2.1
  | 1 => ab_has p (.methodLink (ab_cn o) q.1 (ab_y q.2.1)) && !ab_stc q.2.1 && ab_ini q.2.1
  | 2 => ab_has p (.methodLink (ab_cn o) q.1 (ab_y q.2.1)) && ab_stc q.2.1
  | 3 => ab_nests.any (fun t => t.1 == ab_cn o && t.2.1 == q.1 && decide (t.2.2.1 = ab_y q.2.1)) && !ab_stc q.2.1 && ab_ini q.2.1
  | 4 => ab_nests.any (fun t => t.1 == ab_cn o && t.2.1 == q.1 && decide (t.2.2.1 = ab_y q.2.1)) && ab_stc q.2.1
  | _ => false)
def ab_jOk (j : Nat) : Bool := match ab_jh[j]? with
  | some (_, pi, ps, pv) => (match ab_cw j with
      | some (.code y b n r) => decide (y = ab_y j) && decide (n = ab_nL j) && decide (r = ab_ret j) && goodWord (.code y b n r)
      | _ => false) && ab_has pi (.initialized (ab_y j).cls) && (match ab_stc j with
      | true => ab_has ps (.static (ab_y j))
      | false => ab_has ps (.instanceMethod (ab_y j)) && (ab_ini j || ab_has pv (.selects (ab_y j).cls (ab_y j) (ab_y j)))) &&
      decide ((ab_y j).cls = ab_cn (ab_ow j)) && decide (ab_ow j < 10) && decide ((ab_y j).cls ≠ "java/lang/invoke/MethodHandle") && decide ((ab_y j).cls ≠ "java/lang/invoke/VarHandle") && decide ((parseMethodDescriptor (ab_y j).desc).map (fun d => d.parameters.length) = some (ab_na j)) && plainName (ab_y j).cls && decide (ab_nL j ≤ 21)
  | none => false
theorem ab_f_all : (List.range 11).all (fun o => ab_zall (ab_fOk o) (ab_fT o) (ab_fH o)) = true := by decide +kernel
theorem ab_n_all : (List.range 11).all (fun o => ab_zall (ab_nOk o) (ab_nT o) (ab_nH o)) = true := by decide +kernel
theorem ab_a_all : (List.range 11).all (fun o => ab_zall (ab_aOk o) (ab_aT o) (ab_aH o)) = true := by decide +kernel
theorem ab_s_all : (List.range 11).all (fun o => ab_zall (ab_sOk o) (ab_sT o) (ab_sH o)) = true := by decide +kernel
theorem ab_c_all : (List.range 11).all (fun o => ab_zall (ab_cOk o) (ab_cT o) (ab_cH o ++ List.replicate 30 0)) = true := by decide +kernel
theorem ab_p_all : (List.range 11).all (fun o => ab_zall (ab_pOk o) (ab_pT o) (ab_pH o)) = true := by decide +kernel
theorem ab_o_all : (List.range 11).all (fun o => ab_zall (ab_oOk o) (ab_oT o) (ab_oH o)) = true := by decide +kernel
theorem ab_m_all : (List.range 11).all (fun o => ab_zall (ab_mOk o) (ab_mT o) (ab_mH o)) = true := by decide +kernel
theorem ab_j_0 : (List.range 60).all (fun k => ab_jOk (0 + k)) = true := by decide +kernel
theorem ab_j_60 : (List.range 60).all (fun k => ab_jOk (60 + k)) = true := by decide +kernel
theorem ab_j_120 : (List.range 60).all (fun k => ab_jOk (120 + k)) = true := by decide +kernel
theorem ab_j_180 : (List.range 60).all (fun k => ab_jOk (180 + k)) = true := by decide +kernel
