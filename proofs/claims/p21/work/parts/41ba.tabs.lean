noncomputable section
theorem ho_357 : (xm_y n_357).cls = "RobotCellHouseModel" := rfl
def dn_357_0_0 : List (Nat × Instr × Nat) := [(0, .aload_n 0, 1), (1, .iload_n 1, 1), (2, .invokevirtual 305, 3), (5, .ifCond .ne 5, 3), (8, .iconst (-1), 1), (9, .ireturn, 1), (10, .aload_n 0, 1), (11, .getfield 265, 3), (14, .ifCond .eq 6, 3), (17, .bipush (-2), 2), (19, .ireturn, 1), (20, .aload_n 0, 1), (21, .iconst 1, 1), (22, .putfield 639, 3), (25, .aload_n 0, 1), (26, .iconst 0, 1), (27, .putfield 530, 3), (30, .aload_n 0, 1), (31, .iconst (-1), 1), (32, .putfield 533, 3), (35, .aload_n 0, 1), (36, .iconst 0, 1), (37, .putfield 546, 3), (40, .aload_n 0, 1), (41, .iconst 0, 1)]
set_option maxRecDepth 20000 in
theorem dn_357_0_0_ok : dn_357_0_0.all (fun q => decide (decode (xm_b n_357) q.1 = .ok (q.2.1, q.2.2))) = true := xa_g_ok (by decide +kernel)
def dn_357_0_1 : List (Nat × Instr × Nat) := [(42, .putfield 629, 3), (45, .aload_n 0, 1), (46, .iconst 0, 1), (47, .putfield 626, 3), (50, .aload_n 0, 1), (51, .iconst (-1), 1), (52, .putfield 549, 3), (55, .aload_n 0, 1), (56, .iconst (-1), 1), (57, .putfield 620, 3), (60, .aload_n 0, 1), (61, .iconst 0, 1), (62, .putfield 542, 3), (65, .aload_n 0, 1), (66, .iconst 0, 1), (67, .putfield 552, 3), (70, .aload_n 0, 1), (71, .getfield 204, 3), (74, .iconst 4, 1), (75, .iconst 0, 1), (76, .iastore, 1), (77, .aload_n 0, 1), (78, .getfield 201, 3), (81, .iconst 4, 1), (82, .iconst 0, 1)]
set_option maxRecDepth 20000 in
theorem dn_357_0_1_ok : dn_357_0_1.all (fun q => decide (decode (xm_b n_357) q.1 = .ok (q.2.1, q.2.2))) = true := xa_g_ok (by decide +kernel)
def dn_357_0_2 : List (Nat × Instr × Nat) := [(83, .iastore, 1), (84, .aload_n 0, 1), (85, .iconst 0, 1), (86, .putfield 485, 3), (89, .aload_n 0, 1), (90, .invokevirtual 536, 3), (93, .aload_n 0, 1), (94, .invokevirtual 642, 3), (97, .aload_n 0, 1), (98, .invokevirtual 645, 3), (101, .aload_n 0, 1), (102, .iconst 0, 1), (103, .putfield 317, 3), (106, .aload_n 0, 1), (107, .getfield 530, 3), (110, .ifCond .eq 11, 3), (113, .bipush (-10), 2), (115, .aload_n 0, 1), (116, .getfield 533, 3), (119, .isub, 1), (120, .ireturn, 1), (121, .iconst 0, 1), (122, .istore_n 2, 1), (123, .iload_n 2, 1), (124, .aload_n 0, 1)]
set_option maxRecDepth 20000 in
theorem dn_357_0_2_ok : dn_357_0_2.all (fun q => decide (decode (xm_b n_357) q.1 = .ok (q.2.1, q.2.2))) = true := xa_g_ok (by decide +kernel)
def dn_357_0_3 : List (Nat × Instr × Nat) := [(125, .getfield 546, 3), (128, .if_icmp .ge 75, 3), (131, .aload_n 0, 1), (132, .getfield 171, 3), (135, .sipush 10000, 3), (138, .iload_n 1, 1), (139, .imul, 1), (140, .iload_n 2, 1), (141, .iadd, 1), (142, .aload_n 0, 1), (143, .getfield 171, 3), (146, .ldc_w 545, 3), (149, .iload_n 2, 1), (150, .iadd, 1), (151, .iaload, 1), (152, .iastore, 1), (153, .aload_n 0, 1), (154, .getfield 174, 3), (157, .sipush 10000, 3), (160, .iload_n 1, 1), (161, .imul, 1), (162, .iload_n 2, 1), (163, .iadd, 1), (164, .aload_n 0, 1), (165, .getfield 174, 3)]
set_option maxRecDepth 20000 in
theorem dn_357_0_3_ok : dn_357_0_3.all (fun q => decide (decode (xm_b n_357) q.1 = .ok (q.2.1, q.2.2))) = true := xa_g_ok (by decide +kernel)
def dn_357_1_0 : List (Nat × Instr × Nat) := [(168, .ldc_w 545, 3), (171, .iload_n 2, 1), (172, .iadd, 1), (173, .iaload, 1), (174, .iastore, 1), (175, .aload_n 0, 1), (176, .getfield 177, 3), (179, .sipush 10000, 3), (182, .iload_n 1, 1), (183, .imul, 1), (184, .iload_n 2, 1), (185, .iadd, 1), (186, .aload_n 0, 1), (187, .getfield 177, 3), (190, .ldc_w 545, 3), (193, .iload_n 2, 1), (194, .iadd, 1), (195, .iaload, 1), (196, .iastore, 1), (197, .iinc 2 1, 3), (200, .goto (-77), 3), (203, .iconst 0, 1), (204, .istore_n 2, 1), (205, .iload_n 2, 1), (206, .sipush 900, 3)]
set_option maxRecDepth 20000 in
theorem dn_357_1_0_ok : dn_357_1_0.all (fun q => decide (decode (xm_b n_357) q.1 = .ok (q.2.1, q.2.2))) = true := xa_g_ok (by decide +kernel)
def dn_357_1_1 : List (Nat × Instr × Nat) := [(209, .if_icmp .ge 141, 3), (212, .aload_n 0, 1), (213, .getfield 180, 3), (216, .sipush 900, 3), (219, .iload_n 1, 1), (220, .imul, 1), (221, .iload_n 2, 1), (222, .iadd, 1), (223, .aload_n 0, 1), (224, .getfield 180, 3), (227, .sipush 3600, 3), (230, .iload_n 2, 1), (231, .iadd, 1), (232, .iaload, 1), (233, .iastore, 1), (234, .aload_n 0, 1), (235, .getfield 183, 3), (238, .sipush 900, 3), (241, .iload_n 1, 1), (242, .imul, 1), (243, .iload_n 2, 1), (244, .iadd, 1), (245, .aload_n 0, 1), (246, .getfield 183, 3), (249, .sipush 3600, 3)]
set_option maxRecDepth 20000 in
theorem dn_357_1_1_ok : dn_357_1_1.all (fun q => decide (decode (xm_b n_357) q.1 = .ok (q.2.1, q.2.2))) = true := xa_g_ok (by decide +kernel)
def dn_357_1_2 : List (Nat × Instr × Nat) := [(252, .iload_n 2, 1), (253, .iadd, 1), (254, .iaload, 1), (255, .iastore, 1), (256, .aload_n 0, 1), (257, .getfield 186, 3), (260, .sipush 900, 3), (263, .iload_n 1, 1), (264, .imul, 1), (265, .iload_n 2, 1), (266, .iadd, 1), (267, .aload_n 0, 1), (268, .getfield 186, 3), (271, .sipush 3600, 3), (274, .iload_n 2, 1), (275, .iadd, 1), (276, .iaload, 1), (277, .iastore, 1), (278, .aload_n 0, 1), (279, .getfield 189, 3), (282, .sipush 900, 3), (285, .iload_n 1, 1), (286, .imul, 1), (287, .iload_n 2, 1), (288, .iadd, 1)]
set_option maxRecDepth 20000 in
theorem dn_357_1_2_ok : dn_357_1_2.all (fun q => decide (decode (xm_b n_357) q.1 = .ok (q.2.1, q.2.2))) = true := xa_g_ok (by decide +kernel)
def dn_357_1_3 : List (Nat × Instr × Nat) := [(289, .aload_n 0, 1), (290, .getfield 189, 3), (293, .sipush 3600, 3), (296, .iload_n 2, 1), (297, .iadd, 1), (298, .iaload, 1), (299, .iastore, 1), (300, .aload_n 0, 1), (301, .getfield 192, 3), (304, .sipush 900, 3), (307, .iload_n 1, 1), (308, .imul, 1), (309, .iload_n 2, 1), (310, .iadd, 1), (311, .aload_n 0, 1), (312, .getfield 192, 3), (315, .sipush 3600, 3), (318, .iload_n 2, 1), (319, .iadd, 1), (320, .iaload, 1), (321, .iastore, 1), (322, .aload_n 0, 1), (323, .getfield 195, 3), (326, .sipush 900, 3), (329, .iload_n 1, 1)]
set_option maxRecDepth 20000 in
theorem dn_357_1_3_ok : dn_357_1_3.all (fun q => decide (decode (xm_b n_357) q.1 = .ok (q.2.1, q.2.2))) = true := xa_g_ok (by decide +kernel)
def dn_357_2_0 : List (Nat × Instr × Nat) := [(330, .imul, 1), (331, .iload_n 2, 1), (332, .iadd, 1), (333, .aload_n 0, 1), (334, .getfield 195, 3), (337, .sipush 3600, 3), (340, .iload_n 2, 1), (341, .iadd, 1), (342, .iaload, 1), (343, .iastore, 1), (344, .iinc 2 1, 3), (347, .goto (-142), 3), (350, .iconst 0, 1), (351, .istore_n 2, 1), (352, .iload_n 2, 1), (353, .bipush 32, 2), (355, .if_icmp .ge 46, 3), (358, .aload_n 0, 1), (359, .getfield 198, 3), (362, .bipush 32, 2), (364, .iload_n 1, 1), (365, .imul, 1), (366, .iload_n 2, 1), (367, .iadd, 1), (368, .aload_n 0, 1)]
set_option maxRecDepth 20000 in
theorem dn_357_2_0_ok : dn_357_2_0.all (fun q => decide (decode (xm_b n_357) q.1 = .ok (q.2.1, q.2.2))) = true := xa_g_ok (by decide +kernel)
def dn_357_2_1 : List (Nat × Instr × Nat) := [(369, .getfield 198, 3), (372, .sipush 128, 3), (375, .iload_n 2, 1), (376, .iadd, 1), (377, .iaload, 1), (378, .iastore, 1), (379, .aload_n 0, 1), (380, .getfield 8, 3), (383, .sipush 20932, 3), (386, .bipush 32, 2), (388, .iload_n 1, 1), (389, .imul, 1), (390, .iadd, 1), (391, .iload_n 2, 1), (392, .iadd, 1), (393, .iconst 0, 1), (394, .iastore, 1), (395, .iinc 2 1, 3), (398, .goto (-46), 3), (401, .aload_n 0, 1), (402, .getfield 201, 3), (405, .iload_n 1, 1), (406, .aload_n 0, 1), (407, .getfield 201, 3), (410, .iconst 4, 1)]
set_option maxRecDepth 20000 in
theorem dn_357_2_1_ok : dn_357_2_1.all (fun q => decide (decode (xm_b n_357) q.1 = .ok (q.2.1, q.2.2))) = true := xa_g_ok (by decide +kernel)
def dn_357_2_2 : List (Nat × Instr × Nat) := [(411, .iaload, 1), (412, .iastore, 1), (413, .aload_n 0, 1), (414, .getfield 204, 3), (417, .iload_n 1, 1), (418, .aload_n 0, 1), (419, .getfield 204, 3), (422, .iconst 4, 1), (423, .iaload, 1), (424, .iastore, 1), (425, .aload_n 0, 1), (426, .getfield 207, 3), (429, .iload_n 1, 1), (430, .iconst 1, 1), (431, .bastore, 1), (432, .aload_n 0, 1), (433, .getfield 201, 3), (436, .iload_n 1, 1), (437, .iaload, 1), (438, .ireturn, 1)]
set_option maxRecDepth 20000 in
theorem dn_357_2_2_ok : dn_357_2_2.all (fun q => decide (decode (xm_b n_357) q.1 = .ok (q.2.1, q.2.2))) = true := xa_g_ok (by decide +kernel)
def te_357_0 : Nat → eE := (e_T 26 (e_T 11 (e_T 5 (e_T 1 (e_T 0 (e_L 0 (0, ei_load 0 2 1, 0, 0)) (e_L 1 (0, ei_load 1 0 2, 0, 0))) (e_T 2 (e_L 2 (2, e_nof, 270, 2)) (e_L 5 (0, ei_if1 1 10 8, 0, 0)))) (e_T 9 (e_T 8 (e_L 8 (0, ei_push (0, (-1)) 9, 0, 0)) (e_L 9 (1, e_nof, 1, 0))) (e_T 10 (e_L 10 (0, ei_load 0 2 11, 0, 0)) (e_L 11 (0, ei_getf eft elay 12 3 14, 0, 0))))) (e_T 20 (e_T 17 (e_T 14 (e_L 14 (0, ei_if1 0 20 17, 0, 0)) (e_L 17 (0, ei_push (0, (-2)) 19, 0, 0))) (e_T 19 (e_L 19 (1, e_nof, 1, 0)) (e_L 20 (0, ei_load 0 2 21, 0, 0)))) (e_T 22 (e_T 21 (e_L 21 (0, ei_push (0, 1) 22, 0, 0)) (e_L 22 (0, ei_putf eft elay 12 95 1 25, 0, 0))) (e_T 25 (e_L 25 (0, ei_load 0 2 26, 0, 0)) (e_L 26 (0, ei_push (0, 0) 27, 0, 0)))))) (e_T 40 (e_T 32 (e_T 30 (e_T 27 (e_L 27 (0, ei_putf eft elay 12 88 0 30, 0, 0)) (e_L 30 (0, ei_load 0 2 31, 0, 0))) (e_T 31 (e_L 31 (0, ei_push (0, (-1)) 32, 0, 0)) (e_L 32 (0, ei_putf eft elay 12 89 0 35, 0, 0)))) (e_T 36 (e_T 35 (e_L 35 (0, ei_load 0 2 36, 0, 0)) (e_L 36 (0, ei_push (0, 0) 37, 0, 0))) (e_T 37 (e_L 37 (0, ei_putf eft elay 12 78 0 40, 0, 0)) (e_L 40 (0, ei_load 0 2 41, 0, 0))))) (e_T 46 (e_T 42 (e_T 41 (e_L 41 (0, ei_push (0, 0) 42, 0, 0)) (e_L 42 (0, ei_putf eft elay 12 79 0 45, 0, 0))) (e_T 45 (e_L 45 (0, ei_load 0 2 46, 0, 0)) (e_L 46 (0, ei_push (0, 0) 47, 0, 0)))) (e_T 50 (e_T 47 (e_L 47 (0, ei_putf eft elay 12 80 0 50, 0, 0)) (e_L 50 (0, ei_load 0 2 51, 0, 0))) (e_T 51 (e_L 51 (0, ei_push (0, (-1)) 52, 0, 0)) (e_T 52 (e_L 52 (0, ei_putf eft elay 12 81 0 55, 0, 0)) (e_L 55 (0, ei_load 0 2 56, 0, 0))))))))
set_option maxRecDepth 20000 in
set_option maxHeartbeats 4000000 in
theorem te_357_0_ok : ∀ pc, e_EOq eft cls elay eI n_357 pc (te_357_0 pc) :=
  (e_Tok2
  (e_Tok2
  (e_Tok2
  (e_Tok2
  (e_Tok2
  (e_Lok (ld_aload_n_0 (x_dk dn_357_0_0_ok 0 rfl)))
  (e_Lok (ld_iload_n_1 (x_dk dn_357_0_0_ok 1 rfl))))
  (e_Tok2
  (e_Lok (lk_12_305 ho_357 (x_dk dn_357_0_0_ok 2 rfl)))
  (e_Lok (e_st (I := eI) (er_ifne (off := 5) (tg := 10) (x_dk dn_357_0_0_ok 3 rfl) (by decide)) nx_if1))))
  (e_Tok2
  (e_Tok2
  (e_Lok (ps_iconst_m1 (x_dk dn_357_0_0_ok 4 rfl)))
  (e_Lok (e_rt (I := eI) (k := 1) ⟨(x_dk dn_357_0_0_ok 5 rfl), rfl⟩)))
  (e_Tok2
  (e_Lok (ld_aload_n_0 (x_dk dn_357_0_0_ok 6 rfl)))
  (e_Lok (lk_12_265g ho_357 (x_dk dn_357_0_0_ok 7 rfl))))))
  (e_Tok2
  (e_Tok2
  (e_Tok2
  (e_Lok (e_st (I := eI) (er_ifeq (off := 6) (tg := 20) (x_dk dn_357_0_0_ok 8 rfl) (by decide)) nx_if1))
  (e_Lok (ps_bipush_m2 (x_dk dn_357_0_0_ok 9 rfl))))
  (e_Tok2
  (e_Lok (e_rt (I := eI) (k := 1) ⟨(x_dk dn_357_0_0_ok 10 rfl), rfl⟩))
  (e_Lok (ld_aload_n_0 (x_dk dn_357_0_0_ok 11 rfl)))))
  (e_Tok2
  (e_Tok2
  (e_Lok (ps_iconst_1 (x_dk dn_357_0_0_ok 12 rfl)))
  (e_Lok (lk_12_639p ho_357 (x_dk dn_357_0_0_ok 13 rfl))))
  (e_Tok2
  (e_Lok (ld_aload_n_0 (x_dk dn_357_0_0_ok 14 rfl)))
  (e_Lok (ps_iconst_0 (x_dk dn_357_0_0_ok 15 rfl)))))))
  (e_Tok2
  (e_Tok2
  (e_Tok2
  (e_Tok2
  (e_Lok (lk_12_530p ho_357 (x_dk dn_357_0_0_ok 16 rfl)))
  (e_Lok (ld_aload_n_0 (x_dk dn_357_0_0_ok 17 rfl))))
  (e_Tok2
  (e_Lok (ps_iconst_m1 (x_dk dn_357_0_0_ok 18 rfl)))
  (e_Lok (lk_12_533p ho_357 (x_dk dn_357_0_0_ok 19 rfl)))))
  (e_Tok2
  (e_Tok2
  (e_Lok (ld_aload_n_0 (x_dk dn_357_0_0_ok 20 rfl)))
  (e_Lok (ps_iconst_0 (x_dk dn_357_0_0_ok 21 rfl))))
  (e_Tok2
  (e_Lok (lk_12_546p ho_357 (x_dk dn_357_0_0_ok 22 rfl)))
  (e_Lok (ld_aload_n_0 (x_dk dn_357_0_0_ok 23 rfl))))))
  (e_Tok2
  (e_Tok2
  (e_Tok2
  (e_Lok (ps_iconst_0 (x_dk dn_357_0_0_ok 24 rfl)))
  (e_Lok (lk_12_629p ho_357 (x_dk dn_357_0_1_ok 0 rfl))))
  (e_Tok2
  (e_Lok (ld_aload_n_0 (x_dk dn_357_0_1_ok 1 rfl)))
  (e_Lok (ps_iconst_0 (x_dk dn_357_0_1_ok 2 rfl)))))
  (e_Tok2
  (e_Tok2
  (e_Lok (lk_12_626p ho_357 (x_dk dn_357_0_1_ok 3 rfl)))
  (e_Lok (ld_aload_n_0 (x_dk dn_357_0_1_ok 4 rfl))))
  (e_Tok2
  (e_Lok (ps_iconst_m1 (x_dk dn_357_0_1_ok 5 rfl)))
  (e_Tok2
  (e_Lok (lk_12_549p ho_357 (x_dk dn_357_0_1_ok 6 rfl)))
  (e_Lok (ld_aload_n_0 (x_dk dn_357_0_1_ok 7 rfl)))))))))
def te_357_33 : Nat → eE := (e_T 82 (e_T 67 (e_T 61 (e_T 57 (e_T 56 (e_L 56 (0, ei_push (0, (-1)) 57, 0, 0)) (e_L 57 (0, ei_putf eft elay 12 82 0 60, 0, 0))) (e_T 60 (e_L 60 (0, ei_load 0 2 61, 0, 0)) (e_L 61 (0, ei_push (0, 0) 62, 0, 0)))) (e_T 65 (e_T 62 (e_L 62 (0, ei_putf eft elay 12 83 0 65, 0, 0)) (e_L 65 (0, ei_load 0 2 66, 0, 0))) (e_T 66 (e_L 66 (0, ei_push (0, 0) 67, 0, 0)) (e_L 67 (0, ei_putf eft elay 12 94 0 70, 0, 0))))) (e_T 75 (e_T 71 (e_T 70 (e_L 70 (0, ei_load 0 2 71, 0, 0)) (e_L 71 (0, ei_getf eft elay 12 76 74, 0, 0))) (e_T 74 (e_L 74 (0, ei_push (0, 4) 75, 0, 0)) (e_L 75 (0, ei_push (0, 0) 76, 0, 0)))) (e_T 77 (e_T 76 (e_L 76 (0, ei_ast elay false 77, 0, 0)) (e_L 77 (0, ei_load 0 2 78, 0, 0))) (e_T 78 (e_L 78 (0, ei_getf eft elay 12 75 81, 0, 0)) (e_T 81 (e_L 81 (0, ei_push (0, 4) 82, 0, 0)) (e_L 82 (0, ei_push (0, 0) 83, 0, 0))))))) (e_T 94 (e_T 86 (e_T 84 (e_T 83 (e_L 83 (0, ei_ast elay false 84, 0, 0)) (e_L 84 (0, ei_load 0 2 85, 0, 0))) (e_T 85 (e_L 85 (0, ei_push (0, 0) 86, 0, 0)) (e_L 86 (0, ei_putf eft elay 12 87 0 89, 0, 0)))) (e_T 90 (e_T 89 (e_L 89 (0, ei_load 0 2 90, 0, 0)) (e_L 90 (2, e_nof, 327, 1))) (e_T 93 (e_L 93 (0, ei_load 0 2 94, 0, 0)) (e_L 94 (2, e_nof, 353, 1))))) (e_T 102 (e_T 98 (e_T 97 (e_L 97 (0, ei_load 0 2 98, 0, 0)) (e_L 98 (2, e_nof, 356, 1))) (e_T 101 (e_L 101 (0, ei_load 0 2 102, 0, 0)) (e_L 102 (0, ei_push (0, 0) 103, 0, 0)))) (e_T 106 (e_T 103 (e_L 103 (0, ei_putf eft elay 12 9 0 106, 0, 0)) (e_L 106 (0, ei_load 0 2 107, 0, 0))) (e_T 107 (e_L 107 (0, ei_getf eft elay 12 88 110, 0, 0)) (e_T 110 (e_L 110 (0, ei_if1 0 121 113, 0, 0)) (e_L 113 (0, ei_push (0, (-10)) 115, 0, 0))))))))
set_option maxRecDepth 20000 in
set_option maxHeartbeats 4000000 in
theorem te_357_33_ok : ∀ pc, e_EOq eft cls elay eI n_357 pc (te_357_33 pc) :=
  (e_Tok2
  (e_Tok2
  (e_Tok2
  (e_Tok2
  (e_Tok2
  (e_Lok (ps_iconst_m1 (x_dk dn_357_0_1_ok 8 rfl)))
  (e_Lok (lk_12_620p ho_357 (x_dk dn_357_0_1_ok 9 rfl))))
  (e_Tok2
  (e_Lok (ld_aload_n_0 (x_dk dn_357_0_1_ok 10 rfl)))
  (e_Lok (ps_iconst_0 (x_dk dn_357_0_1_ok 11 rfl)))))
  (e_Tok2
  (e_Tok2
  (e_Lok (lk_12_542p ho_357 (x_dk dn_357_0_1_ok 12 rfl)))
  (e_Lok (ld_aload_n_0 (x_dk dn_357_0_1_ok 13 rfl))))
  (e_Tok2
  (e_Lok (ps_iconst_0 (x_dk dn_357_0_1_ok 14 rfl)))
  (e_Lok (lk_12_552p ho_357 (x_dk dn_357_0_1_ok 15 rfl))))))
  (e_Tok2
  (e_Tok2
  (e_Tok2
  (e_Lok (ld_aload_n_0 (x_dk dn_357_0_1_ok 16 rfl)))
  (e_Lok (lk_12_204g ho_357 (x_dk dn_357_0_1_ok 17 rfl))))
  (e_Tok2
  (e_Lok (ps_iconst_4 (x_dk dn_357_0_1_ok 18 rfl)))
  (e_Lok (ps_iconst_0 (x_dk dn_357_0_1_ok 19 rfl)))))
  (e_Tok2
  (e_Tok2
  (e_Lok (sm_iastore (x_dk dn_357_0_1_ok 20 rfl)))
  (e_Lok (ld_aload_n_0 (x_dk dn_357_0_1_ok 21 rfl))))
  (e_Tok2
  (e_Lok (lk_12_201g ho_357 (x_dk dn_357_0_1_ok 22 rfl)))
  (e_Tok2
  (e_Lok (ps_iconst_4 (x_dk dn_357_0_1_ok 23 rfl)))
  (e_Lok (ps_iconst_0 (x_dk dn_357_0_1_ok 24 rfl))))))))
  (e_Tok2
  (e_Tok2
  (e_Tok2
  (e_Tok2
  (e_Lok (sm_iastore (x_dk dn_357_0_2_ok 0 rfl)))
  (e_Lok (ld_aload_n_0 (x_dk dn_357_0_2_ok 1 rfl))))
  (e_Tok2
  (e_Lok (ps_iconst_0 (x_dk dn_357_0_2_ok 2 rfl)))
  (e_Lok (lk_12_485p ho_357 (x_dk dn_357_0_2_ok 3 rfl)))))
  (e_Tok2
  (e_Tok2
  (e_Lok (ld_aload_n_0 (x_dk dn_357_0_2_ok 4 rfl)))
  (e_Lok (lk_12_536 ho_357 (x_dk dn_357_0_2_ok 5 rfl))))
  (e_Tok2
  (e_Lok (ld_aload_n_0 (x_dk dn_357_0_2_ok 6 rfl)))
  (e_Lok (lk_12_642 ho_357 (x_dk dn_357_0_2_ok 7 rfl))))))
  (e_Tok2
  (e_Tok2
  (e_Tok2
  (e_Lok (ld_aload_n_0 (x_dk dn_357_0_2_ok 8 rfl)))
  (e_Lok (lk_12_645 ho_357 (x_dk dn_357_0_2_ok 9 rfl))))
  (e_Tok2
  (e_Lok (ld_aload_n_0 (x_dk dn_357_0_2_ok 10 rfl)))
  (e_Lok (ps_iconst_0 (x_dk dn_357_0_2_ok 11 rfl)))))
  (e_Tok2
  (e_Tok2
  (e_Lok (lk_12_317p ho_357 (x_dk dn_357_0_2_ok 12 rfl)))
  (e_Lok (ld_aload_n_0 (x_dk dn_357_0_2_ok 13 rfl))))
  (e_Tok2
  (e_Lok (lk_12_530g ho_357 (x_dk dn_357_0_2_ok 14 rfl)))
  (e_Tok2
  (e_Lok (e_st (I := eI) (er_ifeq (off := 11) (tg := 121) (x_dk dn_357_0_2_ok 15 rfl) (by decide)) nx_if1))
  (e_Lok (ps_bipush_m10 (x_dk dn_357_0_2_ok 16 rfl)))))))))
def te_357_67 : Nat → eE := (e_T 141 (e_T 124 (e_T 120 (e_T 116 (e_T 115 (e_L 115 (0, ei_load 0 2 116, 0, 0)) (e_L 116 (0, ei_getf eft elay 12 89 119, 0, 0))) (e_T 119 (e_L 119 (0, ei_bin eF_sub 120, 0, 0)) (e_L 120 (1, e_nof, 1, 0)))) (e_T 122 (e_T 121 (e_L 121 (0, ei_push (0, 0) 122, 0, 0)) (e_L 122 (0, ei_stor 2 0 123, 0, 0))) (e_T 123 (e_L 123 (0, ei_load 2 0 124, 0, 0)) (e_L 124 (0, ei_load 0 2 125, 0, 0))))) (e_T 132 (e_T 128 (e_T 125 (e_L 125 (0, ei_getf eft elay 12 78 128, 0, 0)) (e_L 128 (0, ei_if2 3 203 131, 0, 0))) (e_T 131 (e_L 131 (0, ei_load 0 2 132, 0, 0)) (e_L 132 (0, ei_getf eft elay 12 65 135, 0, 0)))) (e_T 138 (e_T 135 (e_L 135 (0, ei_push (0, 10000) 138, 0, 0)) (e_L 138 (0, ei_load 1 0 139, 0, 0))) (e_T 139 (e_L 139 (0, ei_bin eF_mul 140, 0, 0)) (e_T 140 (e_L 140 (0, ei_load 2 0 141, 0, 0)) (e_L 141 (0, ei_bin eF_add 142, 0, 0))))))) (e_T 153 (e_T 149 (e_T 143 (e_T 142 (e_L 142 (0, ei_load 0 2 143, 0, 0)) (e_L 143 (0, ei_getf eft elay 12 65 146, 0, 0))) (e_T 146 (e_L 146 (0, ei_push (0, 40000) 149, 0, 0)) (e_L 149 (0, ei_load 2 0 150, 0, 0)))) (e_T 151 (e_T 150 (e_L 150 (0, ei_bin eF_add 151, 0, 0)) (e_L 151 (0, ei_ald elay false 152, 0, 0))) (e_T 152 (e_L 152 (0, ei_ast elay false 153, 0, 0)) (e_L 153 (0, ei_load 0 2 154, 0, 0))))) (e_T 161 (e_T 157 (e_T 154 (e_L 154 (0, ei_getf eft elay 12 66 157, 0, 0)) (e_L 157 (0, ei_push (0, 10000) 160, 0, 0))) (e_T 160 (e_L 160 (0, ei_load 1 0 161, 0, 0)) (e_L 161 (0, ei_bin eF_mul 162, 0, 0)))) (e_T 163 (e_T 162 (e_L 162 (0, ei_load 2 0 163, 0, 0)) (e_L 163 (0, ei_bin eF_add 164, 0, 0))) (e_T 164 (e_L 164 (0, ei_load 0 2 165, 0, 0)) (e_T 165 (e_L 165 (0, ei_getf eft elay 12 66 168, 0, 0)) (e_L 168 (0, ei_push (0, 40000) 171, 0, 0))))))))
set_option maxRecDepth 20000 in
set_option maxHeartbeats 4000000 in
theorem te_357_67_ok : ∀ pc, e_EOq eft cls elay eI n_357 pc (te_357_67 pc) :=
  (e_Tok2
  (e_Tok2
  (e_Tok2
  (e_Tok2
  (e_Tok2
  (e_Lok (ld_aload_n_0 (x_dk dn_357_0_2_ok 17 rfl)))
  (e_Lok (lk_12_533g ho_357 (x_dk dn_357_0_2_ok 18 rfl))))
  (e_Tok2
  (e_Lok (sm_isub (x_dk dn_357_0_2_ok 19 rfl)))
  (e_Lok (e_rt (I := eI) (k := 1) ⟨(x_dk dn_357_0_2_ok 20 rfl), rfl⟩))))
  (e_Tok2
  (e_Tok2
  (e_Lok (ps_iconst_0 (x_dk dn_357_0_2_ok 21 rfl)))
  (e_Lok (e_st (I := eI) (er_istore_n (i := 2) (x_dk dn_357_0_2_ok 22 rfl) (by decide +kernel)) nx_stor)))
  (e_Tok2
  (e_Lok (ld_iload_n_2 (x_dk dn_357_0_2_ok 23 rfl)))
  (e_Lok (ld_aload_n_0 (x_dk dn_357_0_2_ok 24 rfl))))))
  (e_Tok2
  (e_Tok2
  (e_Tok2
  (e_Lok (lk_12_546g ho_357 (x_dk dn_357_0_3_ok 0 rfl)))
  (e_Lok (e_st (I := eI) (er_icmpge (off := 75) (tg := 203) (x_dk dn_357_0_3_ok 1 rfl) (by decide)) nx_if2)))
  (e_Tok2
  (e_Lok (ld_aload_n_0 (x_dk dn_357_0_3_ok 2 rfl)))
  (e_Lok (lk_12_171g ho_357 (x_dk dn_357_0_3_ok 3 rfl)))))
  (e_Tok2
  (e_Tok2
  (e_Lok (ps_sipush_10000 (x_dk dn_357_0_3_ok 4 rfl)))
  (e_Lok (ld_iload_n_1 (x_dk dn_357_0_3_ok 5 rfl))))
  (e_Tok2
  (e_Lok (sm_imul (x_dk dn_357_0_3_ok 6 rfl)))
  (e_Tok2
  (e_Lok (ld_iload_n_2 (x_dk dn_357_0_3_ok 7 rfl)))
  (e_Lok (sm_iadd (x_dk dn_357_0_3_ok 8 rfl))))))))
  (e_Tok2
  (e_Tok2
  (e_Tok2
  (e_Tok2
  (e_Lok (ld_aload_n_0 (x_dk dn_357_0_3_ok 9 rfl)))
  (e_Lok (lk_12_171g ho_357 (x_dk dn_357_0_3_ok 10 rfl))))
  (e_Tok2
  (e_Lok (e_st (I := eI) (er_ldcw (ix := 545) (z := 40000) (v := 40000) (x_dk dn_357_0_3_ok 11 rfl) (in_t12 (List.mem_of_getElem? (i := 40) rfl) rfl) (by decide)) (nx_push (Or.inl rfl))))
  (e_Lok (ld_iload_n_2 (x_dk dn_357_0_3_ok 12 rfl)))))
  (e_Tok2
  (e_Tok2
  (e_Lok (sm_iadd (x_dk dn_357_0_3_ok 13 rfl)))
  (e_Lok (sm_iaload (x_dk dn_357_0_3_ok 14 rfl))))
  (e_Tok2
  (e_Lok (sm_iastore (x_dk dn_357_0_3_ok 15 rfl)))
  (e_Lok (ld_aload_n_0 (x_dk dn_357_0_3_ok 16 rfl))))))
  (e_Tok2
  (e_Tok2
  (e_Tok2
  (e_Lok (lk_12_174g ho_357 (x_dk dn_357_0_3_ok 17 rfl)))
  (e_Lok (ps_sipush_10000 (x_dk dn_357_0_3_ok 18 rfl))))
  (e_Tok2
  (e_Lok (ld_iload_n_1 (x_dk dn_357_0_3_ok 19 rfl)))
  (e_Lok (sm_imul (x_dk dn_357_0_3_ok 20 rfl)))))
  (e_Tok2
  (e_Tok2
  (e_Lok (ld_iload_n_2 (x_dk dn_357_0_3_ok 21 rfl)))
  (e_Lok (sm_iadd (x_dk dn_357_0_3_ok 22 rfl))))
  (e_Tok2
  (e_Lok (ld_aload_n_0 (x_dk dn_357_0_3_ok 23 rfl)))
  (e_Tok2
  (e_Lok (lk_12_174g ho_357 (x_dk dn_357_0_3_ok 24 rfl)))
  (e_Lok (e_st (I := eI) (er_ldcw (ix := 545) (z := 40000) (v := 40000) (x_dk dn_357_1_0_ok 0 rfl) (in_t12 (List.mem_of_getElem? (i := 40) rfl) rfl) (by decide)) (nx_push (Or.inl rfl))))))))))
def te_357_101 : Nat → eE := (e_T 195 (e_T 182 (e_T 174 (e_T 172 (e_T 171 (e_L 171 (0, ei_load 2 0 172, 0, 0)) (e_L 172 (0, ei_bin eF_add 173, 0, 0))) (e_T 173 (e_L 173 (0, ei_ald elay false 174, 0, 0)) (e_L 174 (0, ei_ast elay false 175, 0, 0)))) (e_T 176 (e_T 175 (e_L 175 (0, ei_load 0 2 176, 0, 0)) (e_L 176 (0, ei_getf eft elay 12 67 179, 0, 0))) (e_T 179 (e_L 179 (0, ei_push (0, 10000) 182, 0, 0)) (e_L 182 (0, ei_load 1 0 183, 0, 0))))) (e_T 186 (e_T 184 (e_T 183 (e_L 183 (0, ei_bin eF_mul 184, 0, 0)) (e_L 184 (0, ei_load 2 0 185, 0, 0))) (e_T 185 (e_L 185 (0, ei_bin eF_add 186, 0, 0)) (e_L 186 (0, ei_load 0 2 187, 0, 0)))) (e_T 190 (e_T 187 (e_L 187 (0, ei_getf eft elay 12 67 190, 0, 0)) (e_L 190 (0, ei_push (0, 40000) 193, 0, 0))) (e_T 193 (e_L 193 (0, ei_load 2 0 194, 0, 0)) (e_T 194 (e_L 194 (0, ei_bin eF_add 195, 0, 0)) (e_L 195 (0, ei_ald elay false 196, 0, 0))))))) (e_T 209 (e_T 203 (e_T 197 (e_T 196 (e_L 196 (0, ei_ast elay false 197, 0, 0)) (e_L 197 (0, ei_inc 2 1 200, 0, 0))) (e_T 200 (e_L 200 (0, ei_goto 123, 0, 0)) (e_L 203 (0, ei_push (0, 0) 204, 0, 0)))) (e_T 205 (e_T 204 (e_L 204 (0, ei_stor 2 0 205, 0, 0)) (e_L 205 (0, ei_load 2 0 206, 0, 0))) (e_T 206 (e_L 206 (0, ei_push (0, 900) 209, 0, 0)) (e_L 209 (0, ei_if2 3 350 212, 0, 0))))) (e_T 219 (e_T 213 (e_T 212 (e_L 212 (0, ei_load 0 2 213, 0, 0)) (e_L 213 (0, ei_getf eft elay 12 68 216, 0, 0))) (e_T 216 (e_L 216 (0, ei_push (0, 900) 219, 0, 0)) (e_L 219 (0, ei_load 1 0 220, 0, 0)))) (e_T 221 (e_T 220 (e_L 220 (0, ei_bin eF_mul 221, 0, 0)) (e_L 221 (0, ei_load 2 0 222, 0, 0))) (e_T 222 (e_L 222 (0, ei_bin eF_add 223, 0, 0)) (e_T 223 (e_L 223 (0, ei_load 0 2 224, 0, 0)) (e_L 224 (0, ei_getf eft elay 12 68 227, 0, 0))))))))
set_option maxRecDepth 20000 in
set_option maxHeartbeats 4000000 in
theorem te_357_101_ok : ∀ pc, e_EOq eft cls elay eI n_357 pc (te_357_101 pc) :=
  (e_Tok2
  (e_Tok2
  (e_Tok2
  (e_Tok2
  (e_Tok2
  (e_Lok (ld_iload_n_2 (x_dk dn_357_1_0_ok 1 rfl)))
  (e_Lok (sm_iadd (x_dk dn_357_1_0_ok 2 rfl))))
  (e_Tok2
  (e_Lok (sm_iaload (x_dk dn_357_1_0_ok 3 rfl)))
  (e_Lok (sm_iastore (x_dk dn_357_1_0_ok 4 rfl)))))
  (e_Tok2
  (e_Tok2
  (e_Lok (ld_aload_n_0 (x_dk dn_357_1_0_ok 5 rfl)))
  (e_Lok (lk_12_177g ho_357 (x_dk dn_357_1_0_ok 6 rfl))))
  (e_Tok2
  (e_Lok (ps_sipush_10000 (x_dk dn_357_1_0_ok 7 rfl)))
  (e_Lok (ld_iload_n_1 (x_dk dn_357_1_0_ok 8 rfl))))))
  (e_Tok2
  (e_Tok2
  (e_Tok2
  (e_Lok (sm_imul (x_dk dn_357_1_0_ok 9 rfl)))
  (e_Lok (ld_iload_n_2 (x_dk dn_357_1_0_ok 10 rfl))))
  (e_Tok2
  (e_Lok (sm_iadd (x_dk dn_357_1_0_ok 11 rfl)))
  (e_Lok (ld_aload_n_0 (x_dk dn_357_1_0_ok 12 rfl)))))
  (e_Tok2
  (e_Tok2
  (e_Lok (lk_12_177g ho_357 (x_dk dn_357_1_0_ok 13 rfl)))
  (e_Lok (e_st (I := eI) (er_ldcw (ix := 545) (z := 40000) (v := 40000) (x_dk dn_357_1_0_ok 14 rfl) (in_t12 (List.mem_of_getElem? (i := 40) rfl) rfl) (by decide)) (nx_push (Or.inl rfl)))))
  (e_Tok2
  (e_Lok (ld_iload_n_2 (x_dk dn_357_1_0_ok 15 rfl)))
  (e_Tok2
  (e_Lok (sm_iadd (x_dk dn_357_1_0_ok 16 rfl)))
  (e_Lok (sm_iaload (x_dk dn_357_1_0_ok 17 rfl))))))))
  (e_Tok2
  (e_Tok2
  (e_Tok2
  (e_Tok2
  (e_Lok (sm_iastore (x_dk dn_357_1_0_ok 18 rfl)))
  (e_Lok (e_st (I := eI) (er_iinc (i := 2) (n := 1) (x_dk dn_357_1_0_ok 19 rfl) (by decide +kernel) (by decide)) nx_inc)))
  (e_Tok2
  (e_Lok (e_st (I := eI) (er_goto (off := (-77)) (tg := 123) (x_dk dn_357_1_0_ok 20 rfl) (by decide)) nx_goto))
  (e_Lok (ps_iconst_0 (x_dk dn_357_1_0_ok 21 rfl)))))
  (e_Tok2
  (e_Tok2
  (e_Lok (e_st (I := eI) (er_istore_n (i := 2) (x_dk dn_357_1_0_ok 22 rfl) (by decide +kernel)) nx_stor))
  (e_Lok (ld_iload_n_2 (x_dk dn_357_1_0_ok 23 rfl))))
  (e_Tok2
  (e_Lok (ps_sipush_900 (x_dk dn_357_1_0_ok 24 rfl)))
  (e_Lok (e_st (I := eI) (er_icmpge (off := 141) (tg := 350) (x_dk dn_357_1_1_ok 0 rfl) (by decide)) nx_if2)))))
  (e_Tok2
  (e_Tok2
  (e_Tok2
  (e_Lok (ld_aload_n_0 (x_dk dn_357_1_1_ok 1 rfl)))
  (e_Lok (lk_12_180g ho_357 (x_dk dn_357_1_1_ok 2 rfl))))
  (e_Tok2
  (e_Lok (ps_sipush_900 (x_dk dn_357_1_1_ok 3 rfl)))
  (e_Lok (ld_iload_n_1 (x_dk dn_357_1_1_ok 4 rfl)))))
  (e_Tok2
  (e_Tok2
  (e_Lok (sm_imul (x_dk dn_357_1_1_ok 5 rfl)))
  (e_Lok (ld_iload_n_2 (x_dk dn_357_1_1_ok 6 rfl))))
  (e_Tok2
  (e_Lok (sm_iadd (x_dk dn_357_1_1_ok 7 rfl)))
  (e_Tok2
  (e_Lok (ld_aload_n_0 (x_dk dn_357_1_1_ok 8 rfl)))
  (e_Lok (lk_12_180g ho_357 (x_dk dn_357_1_1_ok 9 rfl)))))))))
def te_357_135 : Nat → eE := (e_T 252 (e_T 238 (e_T 232 (e_T 230 (e_T 227 (e_L 227 (0, ei_push (0, 3600) 230, 0, 0)) (e_L 230 (0, ei_load 2 0 231, 0, 0))) (e_T 231 (e_L 231 (0, ei_bin eF_add 232, 0, 0)) (e_L 232 (0, ei_ald elay false 233, 0, 0)))) (e_T 234 (e_T 233 (e_L 233 (0, ei_ast elay false 234, 0, 0)) (e_L 234 (0, ei_load 0 2 235, 0, 0))) (e_T 235 (e_L 235 (0, ei_getf eft elay 12 69 238, 0, 0)) (e_L 238 (0, ei_push (0, 900) 241, 0, 0))))) (e_T 244 (e_T 242 (e_T 241 (e_L 241 (0, ei_load 1 0 242, 0, 0)) (e_L 242 (0, ei_bin eF_mul 243, 0, 0))) (e_T 243 (e_L 243 (0, ei_load 2 0 244, 0, 0)) (e_L 244 (0, ei_bin eF_add 245, 0, 0)))) (e_T 246 (e_T 245 (e_L 245 (0, ei_load 0 2 246, 0, 0)) (e_L 246 (0, ei_getf eft elay 12 69 249, 0, 0))) (e_T 249 (e_L 249 (0, ei_push (0, 3600) 252, 0, 0)) (e_L 252 (0, ei_load 2 0 253, 0, 0)))))) (e_T 264 (e_T 256 (e_T 254 (e_T 253 (e_L 253 (0, ei_bin eF_add 254, 0, 0)) (e_L 254 (0, ei_ald elay false 255, 0, 0))) (e_T 255 (e_L 255 (0, ei_ast elay false 256, 0, 0)) (e_L 256 (0, ei_load 0 2 257, 0, 0)))) (e_T 260 (e_T 257 (e_L 257 (0, ei_getf eft elay 12 70 260, 0, 0)) (e_L 260 (0, ei_push (0, 900) 263, 0, 0))) (e_T 263 (e_L 263 (0, ei_load 1 0 264, 0, 0)) (e_L 264 (0, ei_bin eF_mul 265, 0, 0))))) (e_T 268 (e_T 266 (e_T 265 (e_L 265 (0, ei_load 2 0 266, 0, 0)) (e_L 266 (0, ei_bin eF_add 267, 0, 0))) (e_T 267 (e_L 267 (0, ei_load 0 2 268, 0, 0)) (e_L 268 (0, ei_getf eft elay 12 70 271, 0, 0)))) (e_T 274 (e_T 271 (e_L 271 (0, ei_push (0, 3600) 274, 0, 0)) (e_L 274 (0, ei_load 2 0 275, 0, 0))) (e_T 275 (e_L 275 (0, ei_bin eF_add 276, 0, 0)) (e_T 276 (e_L 276 (0, ei_ald elay false 277, 0, 0)) (e_L 277 (0, ei_ast elay false 278, 0, 0))))))))
set_option maxRecDepth 20000 in
set_option maxHeartbeats 4000000 in
theorem te_357_135_ok : ∀ pc, e_EOq eft cls elay eI n_357 pc (te_357_135 pc) :=
  (e_Tok2
  (e_Tok2
  (e_Tok2
  (e_Tok2
  (e_Tok2
  (e_Lok (ps_sipush_3600 (x_dk dn_357_1_1_ok 10 rfl)))
  (e_Lok (ld_iload_n_2 (x_dk dn_357_1_1_ok 11 rfl))))
  (e_Tok2
  (e_Lok (sm_iadd (x_dk dn_357_1_1_ok 12 rfl)))
  (e_Lok (sm_iaload (x_dk dn_357_1_1_ok 13 rfl)))))
  (e_Tok2
  (e_Tok2
  (e_Lok (sm_iastore (x_dk dn_357_1_1_ok 14 rfl)))
  (e_Lok (ld_aload_n_0 (x_dk dn_357_1_1_ok 15 rfl))))
  (e_Tok2
  (e_Lok (lk_12_183g ho_357 (x_dk dn_357_1_1_ok 16 rfl)))
  (e_Lok (ps_sipush_900 (x_dk dn_357_1_1_ok 17 rfl))))))
  (e_Tok2
  (e_Tok2
  (e_Tok2
  (e_Lok (ld_iload_n_1 (x_dk dn_357_1_1_ok 18 rfl)))
  (e_Lok (sm_imul (x_dk dn_357_1_1_ok 19 rfl))))
  (e_Tok2
  (e_Lok (ld_iload_n_2 (x_dk dn_357_1_1_ok 20 rfl)))
  (e_Lok (sm_iadd (x_dk dn_357_1_1_ok 21 rfl)))))
  (e_Tok2
  (e_Tok2
  (e_Lok (ld_aload_n_0 (x_dk dn_357_1_1_ok 22 rfl)))
  (e_Lok (lk_12_183g ho_357 (x_dk dn_357_1_1_ok 23 rfl))))
  (e_Tok2
  (e_Lok (ps_sipush_3600 (x_dk dn_357_1_1_ok 24 rfl)))
  (e_Lok (ld_iload_n_2 (x_dk dn_357_1_2_ok 0 rfl)))))))
  (e_Tok2
  (e_Tok2
  (e_Tok2
  (e_Tok2
  (e_Lok (sm_iadd (x_dk dn_357_1_2_ok 1 rfl)))
  (e_Lok (sm_iaload (x_dk dn_357_1_2_ok 2 rfl))))
  (e_Tok2
  (e_Lok (sm_iastore (x_dk dn_357_1_2_ok 3 rfl)))
  (e_Lok (ld_aload_n_0 (x_dk dn_357_1_2_ok 4 rfl)))))
  (e_Tok2
  (e_Tok2
  (e_Lok (lk_12_186g ho_357 (x_dk dn_357_1_2_ok 5 rfl)))
  (e_Lok (ps_sipush_900 (x_dk dn_357_1_2_ok 6 rfl))))
  (e_Tok2
  (e_Lok (ld_iload_n_1 (x_dk dn_357_1_2_ok 7 rfl)))
  (e_Lok (sm_imul (x_dk dn_357_1_2_ok 8 rfl))))))
  (e_Tok2
  (e_Tok2
  (e_Tok2
  (e_Lok (ld_iload_n_2 (x_dk dn_357_1_2_ok 9 rfl)))
  (e_Lok (sm_iadd (x_dk dn_357_1_2_ok 10 rfl))))
  (e_Tok2
  (e_Lok (ld_aload_n_0 (x_dk dn_357_1_2_ok 11 rfl)))
  (e_Lok (lk_12_186g ho_357 (x_dk dn_357_1_2_ok 12 rfl)))))
  (e_Tok2
  (e_Tok2
  (e_Lok (ps_sipush_3600 (x_dk dn_357_1_2_ok 13 rfl)))
  (e_Lok (ld_iload_n_2 (x_dk dn_357_1_2_ok 14 rfl))))
  (e_Tok2
  (e_Lok (sm_iadd (x_dk dn_357_1_2_ok 15 rfl)))
  (e_Tok2
  (e_Lok (sm_iaload (x_dk dn_357_1_2_ok 16 rfl)))
  (e_Lok (sm_iastore (x_dk dn_357_1_2_ok 17 rfl)))))))))
def te_357_168 : Nat → eE := (e_T 304 (e_T 289 (e_T 285 (e_T 279 (e_T 278 (e_L 278 (0, ei_load 0 2 279, 0, 0)) (e_L 279 (0, ei_getf eft elay 12 71 282, 0, 0))) (e_T 282 (e_L 282 (0, ei_push (0, 900) 285, 0, 0)) (e_L 285 (0, ei_load 1 0 286, 0, 0)))) (e_T 287 (e_T 286 (e_L 286 (0, ei_bin eF_mul 287, 0, 0)) (e_L 287 (0, ei_load 2 0 288, 0, 0))) (e_T 288 (e_L 288 (0, ei_bin eF_add 289, 0, 0)) (e_L 289 (0, ei_load 0 2 290, 0, 0))))) (e_T 297 (e_T 293 (e_T 290 (e_L 290 (0, ei_getf eft elay 12 71 293, 0, 0)) (e_L 293 (0, ei_push (0, 3600) 296, 0, 0))) (e_T 296 (e_L 296 (0, ei_load 2 0 297, 0, 0)) (e_L 297 (0, ei_bin eF_add 298, 0, 0)))) (e_T 299 (e_T 298 (e_L 298 (0, ei_ald elay false 299, 0, 0)) (e_L 299 (0, ei_ast elay false 300, 0, 0))) (e_T 300 (e_L 300 (0, ei_load 0 2 301, 0, 0)) (e_T 301 (e_L 301 (0, ei_getf eft elay 12 72 304, 0, 0)) (e_L 304 (0, ei_push (0, 900) 307, 0, 0))))))) (e_T 318 (e_T 310 (e_T 308 (e_T 307 (e_L 307 (0, ei_load 1 0 308, 0, 0)) (e_L 308 (0, ei_bin eF_mul 309, 0, 0))) (e_T 309 (e_L 309 (0, ei_load 2 0 310, 0, 0)) (e_L 310 (0, ei_bin eF_add 311, 0, 0)))) (e_T 312 (e_T 311 (e_L 311 (0, ei_load 0 2 312, 0, 0)) (e_L 312 (0, ei_getf eft elay 12 72 315, 0, 0))) (e_T 315 (e_L 315 (0, ei_push (0, 3600) 318, 0, 0)) (e_L 318 (0, ei_load 2 0 319, 0, 0))))) (e_T 322 (e_T 320 (e_T 319 (e_L 319 (0, ei_bin eF_add 320, 0, 0)) (e_L 320 (0, ei_ald elay false 321, 0, 0))) (e_T 321 (e_L 321 (0, ei_ast elay false 322, 0, 0)) (e_L 322 (0, ei_load 0 2 323, 0, 0)))) (e_T 326 (e_T 323 (e_L 323 (0, ei_getf eft elay 12 73 326, 0, 0)) (e_L 326 (0, ei_push (0, 900) 329, 0, 0))) (e_T 329 (e_L 329 (0, ei_load 1 0 330, 0, 0)) (e_T 330 (e_L 330 (0, ei_bin eF_mul 331, 0, 0)) (e_L 331 (0, ei_load 2 0 332, 0, 0))))))))
set_option maxRecDepth 20000 in
set_option maxHeartbeats 4000000 in
theorem te_357_168_ok : ∀ pc, e_EOq eft cls elay eI n_357 pc (te_357_168 pc) :=
  (e_Tok2
  (e_Tok2
  (e_Tok2
  (e_Tok2
  (e_Tok2
  (e_Lok (ld_aload_n_0 (x_dk dn_357_1_2_ok 18 rfl)))
  (e_Lok (lk_12_189g ho_357 (x_dk dn_357_1_2_ok 19 rfl))))
  (e_Tok2
  (e_Lok (ps_sipush_900 (x_dk dn_357_1_2_ok 20 rfl)))
  (e_Lok (ld_iload_n_1 (x_dk dn_357_1_2_ok 21 rfl)))))
  (e_Tok2
  (e_Tok2
  (e_Lok (sm_imul (x_dk dn_357_1_2_ok 22 rfl)))
  (e_Lok (ld_iload_n_2 (x_dk dn_357_1_2_ok 23 rfl))))
  (e_Tok2
  (e_Lok (sm_iadd (x_dk dn_357_1_2_ok 24 rfl)))
  (e_Lok (ld_aload_n_0 (x_dk dn_357_1_3_ok 0 rfl))))))
  (e_Tok2
  (e_Tok2
  (e_Tok2
  (e_Lok (lk_12_189g ho_357 (x_dk dn_357_1_3_ok 1 rfl)))
  (e_Lok (ps_sipush_3600 (x_dk dn_357_1_3_ok 2 rfl))))
  (e_Tok2
  (e_Lok (ld_iload_n_2 (x_dk dn_357_1_3_ok 3 rfl)))
  (e_Lok (sm_iadd (x_dk dn_357_1_3_ok 4 rfl)))))
  (e_Tok2
  (e_Tok2
  (e_Lok (sm_iaload (x_dk dn_357_1_3_ok 5 rfl)))
  (e_Lok (sm_iastore (x_dk dn_357_1_3_ok 6 rfl))))
  (e_Tok2
  (e_Lok (ld_aload_n_0 (x_dk dn_357_1_3_ok 7 rfl)))
  (e_Tok2
  (e_Lok (lk_12_192g ho_357 (x_dk dn_357_1_3_ok 8 rfl)))
  (e_Lok (ps_sipush_900 (x_dk dn_357_1_3_ok 9 rfl))))))))
  (e_Tok2
  (e_Tok2
  (e_Tok2
  (e_Tok2
  (e_Lok (ld_iload_n_1 (x_dk dn_357_1_3_ok 10 rfl)))
  (e_Lok (sm_imul (x_dk dn_357_1_3_ok 11 rfl))))
  (e_Tok2
  (e_Lok (ld_iload_n_2 (x_dk dn_357_1_3_ok 12 rfl)))
  (e_Lok (sm_iadd (x_dk dn_357_1_3_ok 13 rfl)))))
  (e_Tok2
  (e_Tok2
  (e_Lok (ld_aload_n_0 (x_dk dn_357_1_3_ok 14 rfl)))
  (e_Lok (lk_12_192g ho_357 (x_dk dn_357_1_3_ok 15 rfl))))
  (e_Tok2
  (e_Lok (ps_sipush_3600 (x_dk dn_357_1_3_ok 16 rfl)))
  (e_Lok (ld_iload_n_2 (x_dk dn_357_1_3_ok 17 rfl))))))
  (e_Tok2
  (e_Tok2
  (e_Tok2
  (e_Lok (sm_iadd (x_dk dn_357_1_3_ok 18 rfl)))
  (e_Lok (sm_iaload (x_dk dn_357_1_3_ok 19 rfl))))
  (e_Tok2
  (e_Lok (sm_iastore (x_dk dn_357_1_3_ok 20 rfl)))
  (e_Lok (ld_aload_n_0 (x_dk dn_357_1_3_ok 21 rfl)))))
  (e_Tok2
  (e_Tok2
  (e_Lok (lk_12_195g ho_357 (x_dk dn_357_1_3_ok 22 rfl)))
  (e_Lok (ps_sipush_900 (x_dk dn_357_1_3_ok 23 rfl))))
  (e_Tok2
  (e_Lok (ld_iload_n_1 (x_dk dn_357_1_3_ok 24 rfl)))
  (e_Tok2
  (e_Lok (sm_imul (x_dk dn_357_2_0_ok 0 rfl)))
  (e_Lok (ld_iload_n_2 (x_dk dn_357_2_0_ok 1 rfl)))))))))
def te_357_202 : Nat → eE := (e_T 359 (e_T 343 (e_T 337 (e_T 333 (e_T 332 (e_L 332 (0, ei_bin eF_add 333, 0, 0)) (e_L 333 (0, ei_load 0 2 334, 0, 0))) (e_T 334 (e_L 334 (0, ei_getf eft elay 12 73 337, 0, 0)) (e_L 337 (0, ei_push (0, 3600) 340, 0, 0)))) (e_T 341 (e_T 340 (e_L 340 (0, ei_load 2 0 341, 0, 0)) (e_L 341 (0, ei_bin eF_add 342, 0, 0))) (e_T 342 (e_L 342 (0, ei_ald elay false 343, 0, 0)) (e_L 343 (0, ei_ast elay false 344, 0, 0))))) (e_T 351 (e_T 347 (e_T 344 (e_L 344 (0, ei_inc 2 1 347, 0, 0)) (e_L 347 (0, ei_goto 205, 0, 0))) (e_T 350 (e_L 350 (0, ei_push (0, 0) 351, 0, 0)) (e_L 351 (0, ei_stor 2 0 352, 0, 0)))) (e_T 353 (e_T 352 (e_L 352 (0, ei_load 2 0 353, 0, 0)) (e_L 353 (0, ei_push (0, 32) 355, 0, 0))) (e_T 355 (e_L 355 (0, ei_if2 3 401 358, 0, 0)) (e_T 358 (e_L 358 (0, ei_load 0 2 359, 0, 0)) (e_L 359 (0, ei_getf eft elay 12 74 362, 0, 0))))))) (e_T 372 (e_T 366 (e_T 364 (e_T 362 (e_L 362 (0, ei_push (0, 32) 364, 0, 0)) (e_L 364 (0, ei_load 1 0 365, 0, 0))) (e_T 365 (e_L 365 (0, ei_bin eF_mul 366, 0, 0)) (e_L 366 (0, ei_load 2 0 367, 0, 0)))) (e_T 368 (e_T 367 (e_L 367 (0, ei_bin eF_add 368, 0, 0)) (e_L 368 (0, ei_load 0 2 369, 0, 0))) (e_T 369 (e_L 369 (0, ei_getf eft elay 12 74 372, 0, 0)) (e_L 372 (0, ei_push (0, 128) 375, 0, 0))))) (e_T 378 (e_T 376 (e_T 375 (e_L 375 (0, ei_load 2 0 376, 0, 0)) (e_L 376 (0, ei_bin eF_add 377, 0, 0))) (e_T 377 (e_L 377 (0, ei_ald elay false 378, 0, 0)) (e_L 378 (0, ei_ast elay false 379, 0, 0)))) (e_T 380 (e_T 379 (e_L 379 (0, ei_load 0 2 380, 0, 0)) (e_L 380 (0, ei_getf eft elay 12 0 383, 0, 0))) (e_T 383 (e_L 383 (0, ei_push (0, 20932) 386, 0, 0)) (e_T 386 (e_L 386 (0, ei_push (0, 32) 388, 0, 0)) (e_L 388 (0, ei_load 1 0 389, 0, 0))))))))
set_option maxRecDepth 20000 in
set_option maxHeartbeats 4000000 in
theorem te_357_202_ok : ∀ pc, e_EOq eft cls elay eI n_357 pc (te_357_202 pc) :=
  (e_Tok2
  (e_Tok2
  (e_Tok2
  (e_Tok2
  (e_Tok2
  (e_Lok (sm_iadd (x_dk dn_357_2_0_ok 2 rfl)))
  (e_Lok (ld_aload_n_0 (x_dk dn_357_2_0_ok 3 rfl))))
  (e_Tok2
  (e_Lok (lk_12_195g ho_357 (x_dk dn_357_2_0_ok 4 rfl)))
  (e_Lok (ps_sipush_3600 (x_dk dn_357_2_0_ok 5 rfl)))))
  (e_Tok2
  (e_Tok2
  (e_Lok (ld_iload_n_2 (x_dk dn_357_2_0_ok 6 rfl)))
  (e_Lok (sm_iadd (x_dk dn_357_2_0_ok 7 rfl))))
  (e_Tok2
  (e_Lok (sm_iaload (x_dk dn_357_2_0_ok 8 rfl)))
  (e_Lok (sm_iastore (x_dk dn_357_2_0_ok 9 rfl))))))
  (e_Tok2
  (e_Tok2
  (e_Tok2
  (e_Lok (e_st (I := eI) (er_iinc (i := 2) (n := 1) (x_dk dn_357_2_0_ok 10 rfl) (by decide +kernel) (by decide)) nx_inc))
  (e_Lok (e_st (I := eI) (er_goto (off := (-142)) (tg := 205) (x_dk dn_357_2_0_ok 11 rfl) (by decide)) nx_goto)))
  (e_Tok2
  (e_Lok (ps_iconst_0 (x_dk dn_357_2_0_ok 12 rfl)))
  (e_Lok (e_st (I := eI) (er_istore_n (i := 2) (x_dk dn_357_2_0_ok 13 rfl) (by decide +kernel)) nx_stor))))
  (e_Tok2
  (e_Tok2
  (e_Lok (ld_iload_n_2 (x_dk dn_357_2_0_ok 14 rfl)))
  (e_Lok (ps_bipush_32 (x_dk dn_357_2_0_ok 15 rfl))))
  (e_Tok2
  (e_Lok (e_st (I := eI) (er_icmpge (off := 46) (tg := 401) (x_dk dn_357_2_0_ok 16 rfl) (by decide)) nx_if2))
  (e_Tok2
  (e_Lok (ld_aload_n_0 (x_dk dn_357_2_0_ok 17 rfl)))
  (e_Lok (lk_12_198g ho_357 (x_dk dn_357_2_0_ok 18 rfl))))))))
  (e_Tok2
  (e_Tok2
  (e_Tok2
  (e_Tok2
  (e_Lok (ps_bipush_32 (x_dk dn_357_2_0_ok 19 rfl)))
  (e_Lok (ld_iload_n_1 (x_dk dn_357_2_0_ok 20 rfl))))
  (e_Tok2
  (e_Lok (sm_imul (x_dk dn_357_2_0_ok 21 rfl)))
  (e_Lok (ld_iload_n_2 (x_dk dn_357_2_0_ok 22 rfl)))))
  (e_Tok2
  (e_Tok2
  (e_Lok (sm_iadd (x_dk dn_357_2_0_ok 23 rfl)))
  (e_Lok (ld_aload_n_0 (x_dk dn_357_2_0_ok 24 rfl))))
  (e_Tok2
  (e_Lok (lk_12_198g ho_357 (x_dk dn_357_2_1_ok 0 rfl)))
  (e_Lok (ps_sipush_128 (x_dk dn_357_2_1_ok 1 rfl))))))
  (e_Tok2
  (e_Tok2
  (e_Tok2
  (e_Lok (ld_iload_n_2 (x_dk dn_357_2_1_ok 2 rfl)))
  (e_Lok (sm_iadd (x_dk dn_357_2_1_ok 3 rfl))))
  (e_Tok2
  (e_Lok (sm_iaload (x_dk dn_357_2_1_ok 4 rfl)))
  (e_Lok (sm_iastore (x_dk dn_357_2_1_ok 5 rfl)))))
  (e_Tok2
  (e_Tok2
  (e_Lok (ld_aload_n_0 (x_dk dn_357_2_1_ok 6 rfl)))
  (e_Lok (lk_12_8g ho_357 (x_dk dn_357_2_1_ok 7 rfl))))
  (e_Tok2
  (e_Lok (ps_sipush_20932 (x_dk dn_357_2_1_ok 8 rfl)))
  (e_Tok2
  (e_Lok (ps_bipush_32 (x_dk dn_357_2_1_ok 9 rfl)))
  (e_Lok (ld_iload_n_1 (x_dk dn_357_2_1_ok 10 rfl)))))))))
def te_357_236 : Nat → eE := (e_T 413 (e_T 398 (e_T 392 (e_T 390 (e_T 389 (e_L 389 (0, ei_bin eF_mul 390, 0, 0)) (e_L 390 (0, ei_bin eF_add 391, 0, 0))) (e_T 391 (e_L 391 (0, ei_load 2 0 392, 0, 0)) (e_L 392 (0, ei_bin eF_add 393, 0, 0)))) (e_T 394 (e_T 393 (e_L 393 (0, ei_push (0, 0) 394, 0, 0)) (e_L 394 (0, ei_ast elay false 395, 0, 0))) (e_T 395 (e_L 395 (0, ei_inc 2 1 398, 0, 0)) (e_L 398 (0, ei_goto 352, 0, 0))))) (e_T 406 (e_T 402 (e_T 401 (e_L 401 (0, ei_load 0 2 402, 0, 0)) (e_L 402 (0, ei_getf eft elay 12 75 405, 0, 0))) (e_T 405 (e_L 405 (0, ei_load 1 0 406, 0, 0)) (e_L 406 (0, ei_load 0 2 407, 0, 0)))) (e_T 410 (e_T 407 (e_L 407 (0, ei_getf eft elay 12 75 410, 0, 0)) (e_L 410 (0, ei_push (0, 4) 411, 0, 0))) (e_T 411 (e_L 411 (0, ei_ald elay false 412, 0, 0)) (e_T 412 (e_L 412 (0, ei_ast elay false 413, 0, 0)) (e_L 413 (0, ei_load 0 2 414, 0, 0))))))) (e_T 425 (e_T 419 (e_T 417 (e_T 414 (e_L 414 (0, ei_getf eft elay 12 76 417, 0, 0)) (e_L 417 (0, ei_load 1 0 418, 0, 0))) (e_T 418 (e_L 418 (0, ei_load 0 2 419, 0, 0)) (e_L 419 (0, ei_getf eft elay 12 76 422, 0, 0)))) (e_T 423 (e_T 422 (e_L 422 (0, ei_push (0, 4) 423, 0, 0)) (e_L 423 (0, ei_ald elay false 424, 0, 0))) (e_T 424 (e_L 424 (0, ei_ast elay false 425, 0, 0)) (e_L 425 (0, ei_load 0 2 426, 0, 0))))) (e_T 431 (e_T 429 (e_T 426 (e_L 426 (0, ei_getf eft elay 12 77 429, 0, 0)) (e_L 429 (0, ei_load 1 0 430, 0, 0))) (e_T 430 (e_L 430 (0, ei_push (0, 1) 431, 0, 0)) (e_L 431 (0, ei_ast elay true 432, 0, 0)))) (e_T 433 (e_T 432 (e_L 432 (0, ei_load 0 2 433, 0, 0)) (e_L 433 (0, ei_getf eft elay 12 75 436, 0, 0))) (e_T 436 (e_L 436 (0, ei_load 1 0 437, 0, 0)) (e_T 437 (e_L 437 (0, ei_ald elay false 438, 0, 0)) (e_L 438 (1, e_nof, 1, 0))))))))
set_option maxRecDepth 20000 in
set_option maxHeartbeats 4000000 in
theorem te_357_236_ok : ∀ pc, e_EOq eft cls elay eI n_357 pc (te_357_236 pc) :=
  (e_Tok2
  (e_Tok2
  (e_Tok2
  (e_Tok2
  (e_Tok2
  (e_Lok (sm_imul (x_dk dn_357_2_1_ok 11 rfl)))
  (e_Lok (sm_iadd (x_dk dn_357_2_1_ok 12 rfl))))
  (e_Tok2
  (e_Lok (ld_iload_n_2 (x_dk dn_357_2_1_ok 13 rfl)))
  (e_Lok (sm_iadd (x_dk dn_357_2_1_ok 14 rfl)))))
  (e_Tok2
  (e_Tok2
  (e_Lok (ps_iconst_0 (x_dk dn_357_2_1_ok 15 rfl)))
  (e_Lok (sm_iastore (x_dk dn_357_2_1_ok 16 rfl))))
  (e_Tok2
  (e_Lok (e_st (I := eI) (er_iinc (i := 2) (n := 1) (x_dk dn_357_2_1_ok 17 rfl) (by decide +kernel) (by decide)) nx_inc))
  (e_Lok (e_st (I := eI) (er_goto (off := (-46)) (tg := 352) (x_dk dn_357_2_1_ok 18 rfl) (by decide)) nx_goto)))))
  (e_Tok2
  (e_Tok2
  (e_Tok2
  (e_Lok (ld_aload_n_0 (x_dk dn_357_2_1_ok 19 rfl)))
  (e_Lok (lk_12_201g ho_357 (x_dk dn_357_2_1_ok 20 rfl))))
  (e_Tok2
  (e_Lok (ld_iload_n_1 (x_dk dn_357_2_1_ok 21 rfl)))
  (e_Lok (ld_aload_n_0 (x_dk dn_357_2_1_ok 22 rfl)))))
  (e_Tok2
  (e_Tok2
  (e_Lok (lk_12_201g ho_357 (x_dk dn_357_2_1_ok 23 rfl)))
  (e_Lok (ps_iconst_4 (x_dk dn_357_2_1_ok 24 rfl))))
  (e_Tok2
  (e_Lok (sm_iaload (x_dk dn_357_2_2_ok 0 rfl)))
  (e_Tok2
  (e_Lok (sm_iastore (x_dk dn_357_2_2_ok 1 rfl)))
  (e_Lok (ld_aload_n_0 (x_dk dn_357_2_2_ok 2 rfl))))))))
  (e_Tok2
  (e_Tok2
  (e_Tok2
  (e_Tok2
  (e_Lok (lk_12_204g ho_357 (x_dk dn_357_2_2_ok 3 rfl)))
  (e_Lok (ld_iload_n_1 (x_dk dn_357_2_2_ok 4 rfl))))
  (e_Tok2
  (e_Lok (ld_aload_n_0 (x_dk dn_357_2_2_ok 5 rfl)))
  (e_Lok (lk_12_204g ho_357 (x_dk dn_357_2_2_ok 6 rfl)))))
  (e_Tok2
  (e_Tok2
  (e_Lok (ps_iconst_4 (x_dk dn_357_2_2_ok 7 rfl)))
  (e_Lok (sm_iaload (x_dk dn_357_2_2_ok 8 rfl))))
  (e_Tok2
  (e_Lok (sm_iastore (x_dk dn_357_2_2_ok 9 rfl)))
  (e_Lok (ld_aload_n_0 (x_dk dn_357_2_2_ok 10 rfl))))))
  (e_Tok2
  (e_Tok2
  (e_Tok2
  (e_Lok (lk_12_207g ho_357 (x_dk dn_357_2_2_ok 11 rfl)))
  (e_Lok (ld_iload_n_1 (x_dk dn_357_2_2_ok 12 rfl))))
  (e_Tok2
  (e_Lok (ps_iconst_1 (x_dk dn_357_2_2_ok 13 rfl)))
  (e_Lok (e_st (I := eI) (er_bastore (x_dk dn_357_2_2_ok 14 rfl)) nx_ast))))
  (e_Tok2
  (e_Tok2
  (e_Lok (ld_aload_n_0 (x_dk dn_357_2_2_ok 15 rfl)))
  (e_Lok (lk_12_201g ho_357 (x_dk dn_357_2_2_ok 16 rfl))))
  (e_Tok2
  (e_Lok (ld_iload_n_1 (x_dk dn_357_2_2_ok 17 rfl)))
  (e_Tok2
  (e_Lok (sm_iaload (x_dk dn_357_2_2_ok 18 rfl)))
  (e_Lok (e_rt (I := eI) (k := 1) ⟨(x_dk dn_357_2_2_ok 19 rfl), rfl⟩))))))))
def te_357 : Nat → eE := (e_T 224 (e_T 113 (e_T 55 te_357_0 te_357_33) (e_T 168 te_357_67 te_357_101)) (e_T 331 (e_T 277 te_357_135 te_357_168) (e_T 388 te_357_202 te_357_236)))
theorem te_357_ok : ∀ pc, e_EOq eft cls elay eI n_357 pc (te_357 pc) := (e_Tok2 ((e_Tok2 ((e_Tok2 (te_357_0_ok) (te_357_33_ok))) ((e_Tok2 (te_357_67_ok) (te_357_101_ok))))) ((e_Tok2 ((e_Tok2 (te_357_135_ok) (te_357_168_ok))) ((e_Tok2 (te_357_202_ok) (te_357_236_ok))))))
theorem ho_358 : (xm_y n_358).cls = "RobotCellHouseModel" := rfl
def dn_358_0_0 : List (Nat × Instr × Nat) := [(0, .aload_n 0, 1), (1, .getfield 639, 3), (4, .ifCond .eq 13, 3), (7, .iload_n 1, 1), (8, .i2l, 1), (9, .lconst 0, 1), (10, .lconst 1, 1), (11, .invokestatic 301, 3), (14, .ifCond .ne 7, 3), (17, .iconst (-1), 1), (18, .goto 18, 3), (21, .iload_n 1, 1), (22, .ifCond .ne 10, 3), (25, .aload_n 0, 1), (26, .getfield 530, 3), (29, .goto 7, 3), (32, .aload_n 0, 1), (33, .getfield 533, 3), (36, .ireturn, 1)]
set_option maxRecDepth 20000 in
theorem dn_358_0_0_ok : dn_358_0_0.all (fun q => decide (decode (xm_b n_358) q.1 = .ok (q.2.1, q.2.2))) = true := xa_g_ok (by decide +kernel)
def te_358_0 : Nat → eE := (e_T 14 (e_T 7 (e_T 1 (e_T 0 (e_L 0 (0, ei_load 0 2 1, 0, 0)) (e_L 1 (0, ei_getf eft elay 12 95 4, 0, 0))) (e_T 4 (e_L 4 (0, ei_if1 0 17 7, 0, 0)) (e_L 7 (0, ei_load 1 0 8, 0, 0)))) (e_T 9 (e_T 8 (e_L 8 (0, ei_un (fun x => (4, x)) 9, 0, 0)) (e_L 9 (0, ei_push (4, 0) 10, 0, 0))) (e_T 10 (e_L 10 (0, ei_push (4, 1) 11, 0, 0)) (e_T 11 (e_L 11 (2, e_nof, 266, 3)) (e_L 14 (0, ei_if1 1 21 17, 0, 0)))))) (e_T 25 (e_T 18 (e_T 17 (e_L 17 (0, ei_push (0, (-1)) 18, 0, 0)) (e_L 18 (0, ei_goto 36, 0, 0))) (e_T 21 (e_L 21 (0, ei_load 1 0 22, 0, 0)) (e_T 22 (e_L 22 (0, ei_if1 1 32 25, 0, 0)) (e_L 25 (0, ei_load 0 2 26, 0, 0))))) (e_T 29 (e_T 26 (e_L 26 (0, ei_getf eft elay 12 88 29, 0, 0)) (e_L 29 (0, ei_goto 36, 0, 0))) (e_T 32 (e_L 32 (0, ei_load 0 2 33, 0, 0)) (e_T 33 (e_L 33 (0, ei_getf eft elay 12 89 36, 0, 0)) (e_L 36 (1, e_nof, 1, 0)))))))
set_option maxRecDepth 20000 in
set_option maxHeartbeats 4000000 in
theorem te_358_0_ok : ∀ pc, e_EOq eft cls elay eI n_358 pc (te_358_0 pc) :=
  (e_Tok2
  (e_Tok2
  (e_Tok2
  (e_Tok2
  (e_Lok (ld_aload_n_0 (x_dk dn_358_0_0_ok 0 rfl)))
  (e_Lok (lk_12_639g ho_358 (x_dk dn_358_0_0_ok 1 rfl))))
  (e_Tok2
  (e_Lok (e_st (I := eI) (er_ifeq (off := 13) (tg := 17) (x_dk dn_358_0_0_ok 2 rfl) (by decide)) nx_if1))
  (e_Lok (ld_iload_n_1 (x_dk dn_358_0_0_ok 3 rfl)))))
  (e_Tok2
  (e_Tok2
  (e_Lok (e_st (I := eI) (er_i2l (x_dk dn_358_0_0_ok 4 rfl)) (nx_un (fun _ => rfl))))
  (e_Lok (ps_lconst_0 (x_dk dn_358_0_0_ok 5 rfl))))
  (e_Tok2
  (e_Lok (ps_lconst_1 (x_dk dn_358_0_0_ok 6 rfl)))
  (e_Tok2
  (e_Lok (lk_12_301 ho_358 (x_dk dn_358_0_0_ok 7 rfl)))
  (e_Lok (e_st (I := eI) (er_ifne (off := 7) (tg := 21) (x_dk dn_358_0_0_ok 8 rfl) (by decide)) nx_if1))))))
  (e_Tok2
  (e_Tok2
  (e_Tok2
  (e_Lok (ps_iconst_m1 (x_dk dn_358_0_0_ok 9 rfl)))
  (e_Lok (e_st (I := eI) (er_goto (off := 18) (tg := 36) (x_dk dn_358_0_0_ok 10 rfl) (by decide)) nx_goto)))
  (e_Tok2
  (e_Lok (ld_iload_n_1 (x_dk dn_358_0_0_ok 11 rfl)))
  (e_Tok2
  (e_Lok (e_st (I := eI) (er_ifne (off := 10) (tg := 32) (x_dk dn_358_0_0_ok 12 rfl) (by decide)) nx_if1))
  (e_Lok (ld_aload_n_0 (x_dk dn_358_0_0_ok 13 rfl))))))
  (e_Tok2
  (e_Tok2
  (e_Lok (lk_12_530g ho_358 (x_dk dn_358_0_0_ok 14 rfl)))
  (e_Lok (e_st (I := eI) (er_goto (off := 7) (tg := 36) (x_dk dn_358_0_0_ok 15 rfl) (by decide)) nx_goto)))
  (e_Tok2
  (e_Lok (ld_aload_n_0 (x_dk dn_358_0_0_ok 16 rfl)))
  (e_Tok2
  (e_Lok (lk_12_533g ho_358 (x_dk dn_358_0_0_ok 17 rfl)))
  (e_Lok (e_rt (I := eI) (k := 1) ⟨(x_dk dn_358_0_0_ok 18 rfl), rfl⟩)))))))
def te_358 : Nat → eE := te_358_0
theorem te_358_ok : ∀ pc, e_EOq eft cls elay eI n_358 pc (te_358 pc) := te_358_0_ok
theorem ho_359 : (xm_y n_359).cls = "RobotCellHouseModel" := rfl
def dn_359_0_0 : List (Nat × Instr × Nat) := [(0, .iconst 0, 1), (1, .istore_n 3, 1), (2, .iload_n 3, 1), (3, .bipush 16, 2), (5, .if_icmp .ge 35, 3), (8, .aload_n 0, 1), (9, .getfield 8, 3), (12, .iload_n 3, 1), (13, .invokestatic 298, 3), (16, .iaload, 1), (17, .ifCond .eq 23, 3), (20, .aload_n 0, 1), (21, .getfield 8, 3), (24, .iload_n 3, 1), (25, .invokestatic 298, 3), (28, .iaload, 1), (29, .bipush 6, 2), (31, .if_icmp .eq 9, 3), (34, .iinc 3 1, 3), (37, .goto (-35), 3), (40, .iload_n 3, 1), (41, .bipush 16, 2), (43, .if_icmp .ne 5, 3), (46, .iconst (-1), 1), (47, .ireturn, 1)]
set_option maxRecDepth 20000 in
theorem dn_359_0_0_ok : dn_359_0_0.all (fun q => decide (decode (xm_b n_359) q.1 = .ok (q.2.1, q.2.2))) = true := xa_g_ok (by decide +kernel)
def dn_359_0_1 : List (Nat × Instr × Nat) := [(48, .iload_n 3, 1), (49, .invokestatic 298, 3), (52, .istore 4, 2), (54, .iconst 0, 1), (55, .istore 5, 2), (57, .iload 5, 2), (59, .bipush 20, 2), (61, .if_icmp .ge 20, 3), (64, .aload_n 0, 1), (65, .getfield 8, 3), (68, .iload 4, 2), (70, .iload 5, 2), (72, .iadd, 1), (73, .iconst 0, 1), (74, .iastore, 1), (75, .iinc 5 1, 3), (78, .goto (-21), 3), (81, .aload_n 0, 1), (82, .getfield 8, 3), (85, .iload 4, 2), (87, .iconst 1, 1), (88, .iastore, 1), (89, .aload_n 0, 1), (90, .getfield 8, 3), (93, .iload 4, 2)]
set_option maxRecDepth 20000 in
theorem dn_359_0_1_ok : dn_359_0_1.all (fun q => decide (decode (xm_b n_359) q.1 = .ok (q.2.1, q.2.2))) = true := xa_g_ok (by decide +kernel)
def dn_359_0_2 : List (Nat × Instr × Nat) := [(95, .iconst 1, 1), (96, .iadd, 1), (97, .iload_n 1, 1), (98, .iastore, 1), (99, .aload_n 0, 1), (100, .getfield 8, 3), (103, .iload 4, 2), (105, .bipush 8, 2), (107, .iadd, 1), (108, .iconst (-1), 1), (109, .iastore, 1), (110, .aload_n 0, 1), (111, .getfield 8, 3), (114, .iload 4, 2), (116, .bipush 11, 2), (118, .iadd, 1), (119, .aload_n 0, 1), (120, .getfield 8, 3), (123, .iconst 0, 1), (124, .iaload, 1), (125, .iconst 1, 1), (126, .iadd, 1), (127, .iastore, 1), (128, .aload_n 0, 1), (129, .getfield 8, 3)]
set_option maxRecDepth 20000 in
theorem dn_359_0_2_ok : dn_359_0_2.all (fun q => decide (decode (xm_b n_359) q.1 = .ok (q.2.1, q.2.2))) = true := xa_g_ok (by decide +kernel)
def dn_359_0_3 : List (Nat × Instr × Nat) := [(132, .iload 4, 2), (134, .bipush 12, 2), (136, .iadd, 1), (137, .iconst 1, 1), (138, .iastore, 1), (139, .aload_n 0, 1), (140, .getfield 8, 3), (143, .iload 4, 2), (145, .bipush 20, 2), (147, .iadd, 1), (148, .aload_n 0, 1), (149, .getfield 198, 3), (152, .bipush 32, 2), (154, .iload_n 1, 1), (155, .imul, 1), (156, .iload_n 2, 1), (157, .iadd, 1), (158, .iaload, 1), (159, .iastore, 1), (160, .aload_n 0, 1), (161, .getfield 8, 3), (164, .iload 4, 2), (166, .bipush 20, 2), (168, .iadd, 1), (169, .iconst 1, 1)]
set_option maxRecDepth 20000 in
theorem dn_359_0_3_ok : dn_359_0_3.all (fun q => decide (decode (xm_b n_359) q.1 = .ok (q.2.1, q.2.2))) = true := xa_g_ok (by decide +kernel)
def dn_359_1_0 : List (Nat × Instr × Nat) := [(170, .iadd, 1), (171, .iconst 0, 1), (172, .iastore, 1), (173, .iload_n 3, 1), (174, .ireturn, 1)]
set_option maxRecDepth 20000 in
theorem dn_359_1_0_ok : dn_359_1_0.all (fun q => decide (decode (xm_b n_359) q.1 = .ok (q.2.1, q.2.2))) = true := xa_g_ok (by decide +kernel)
def te_359_0 : Nat → eE := (e_T 21 (e_T 8 (e_T 2 (e_T 0 (e_L 0 (0, ei_push (0, 0) 1, 0, 0)) (e_T 1 (e_L 1 (0, ei_stor 3 0 2, 0, 0)) (e_L 2 (0, ei_load 3 0 3, 0, 0)))) (e_T 3 (e_L 3 (0, ei_push (0, 16) 5, 0, 0)) (e_T 5 (e_L 5 (0, ei_if2 3 40 8, 0, 0)) (e_L 8 (0, ei_load 0 2 9, 0, 0))))) (e_T 13 (e_T 9 (e_L 9 (0, ei_getf eft elay 12 0 12, 0, 0)) (e_T 12 (e_L 12 (0, ei_load 3 0 13, 0, 0)) (e_L 13 (2, e_nof, 269, 1)))) (e_T 17 (e_T 16 (e_L 16 (0, ei_ald elay false 17, 0, 0)) (e_L 17 (0, ei_if1 0 40 20, 0, 0))) (e_T 20 (e_L 20 (0, ei_load 0 2 21, 0, 0)) (e_L 21 (0, ei_getf eft elay 12 0 24, 0, 0)))))) (e_T 34 (e_T 28 (e_T 24 (e_L 24 (0, ei_load 3 0 25, 0, 0)) (e_T 25 (e_L 25 (2, e_nof, 269, 1)) (e_L 28 (0, ei_ald elay false 29, 0, 0)))) (e_T 29 (e_L 29 (0, ei_push (0, 6) 31, 0, 0)) (e_T 31 (e_L 31 (0, ei_if2 0 40 34, 0, 0)) (e_L 34 (0, ei_inc 3 1 37, 0, 0))))) (e_T 41 (e_T 37 (e_L 37 (0, ei_goto 2, 0, 0)) (e_T 40 (e_L 40 (0, ei_load 3 0 41, 0, 0)) (e_L 41 (0, ei_push (0, 16) 43, 0, 0)))) (e_T 46 (e_T 43 (e_L 43 (0, ei_if2 1 48 46, 0, 0)) (e_L 46 (0, ei_push (0, (-1)) 47, 0, 0))) (e_T 47 (e_L 47 (1, e_nof, 1, 0)) (e_L 48 (0, ei_load 3 0 49, 0, 0)))))))
set_option maxRecDepth 20000 in
set_option maxHeartbeats 4000000 in
theorem te_359_0_ok : ∀ pc, e_EOq eft cls elay eI n_359 pc (te_359_0 pc) :=
  (e_Tok2
  (e_Tok2
  (e_Tok2
  (e_Tok2
  (e_Lok (ps_iconst_0 (x_dk dn_359_0_0_ok 0 rfl)))
  (e_Tok2
  (e_Lok (e_st (I := eI) (er_istore_n (i := 3) (x_dk dn_359_0_0_ok 1 rfl) (by decide +kernel)) nx_stor))
  (e_Lok (ld_iload_n_3 (x_dk dn_359_0_0_ok 2 rfl)))))
  (e_Tok2
  (e_Lok (ps_bipush_16 (x_dk dn_359_0_0_ok 3 rfl)))
  (e_Tok2
  (e_Lok (e_st (I := eI) (er_icmpge (off := 35) (tg := 40) (x_dk dn_359_0_0_ok 4 rfl) (by decide)) nx_if2))
  (e_Lok (ld_aload_n_0 (x_dk dn_359_0_0_ok 5 rfl))))))
  (e_Tok2
  (e_Tok2
  (e_Lok (lk_12_8g ho_359 (x_dk dn_359_0_0_ok 6 rfl)))
  (e_Tok2
  (e_Lok (ld_iload_n_3 (x_dk dn_359_0_0_ok 7 rfl)))
  (e_Lok (lk_12_298 ho_359 (x_dk dn_359_0_0_ok 8 rfl)))))
  (e_Tok2
  (e_Tok2
  (e_Lok (sm_iaload (x_dk dn_359_0_0_ok 9 rfl)))
  (e_Lok (e_st (I := eI) (er_ifeq (off := 23) (tg := 40) (x_dk dn_359_0_0_ok 10 rfl) (by decide)) nx_if1)))
  (e_Tok2
  (e_Lok (ld_aload_n_0 (x_dk dn_359_0_0_ok 11 rfl)))
  (e_Lok (lk_12_8g ho_359 (x_dk dn_359_0_0_ok 12 rfl)))))))
  (e_Tok2
  (e_Tok2
  (e_Tok2
  (e_Lok (ld_iload_n_3 (x_dk dn_359_0_0_ok 13 rfl)))
  (e_Tok2
  (e_Lok (lk_12_298 ho_359 (x_dk dn_359_0_0_ok 14 rfl)))
  (e_Lok (sm_iaload (x_dk dn_359_0_0_ok 15 rfl)))))
  (e_Tok2
  (e_Lok (ps_bipush_6 (x_dk dn_359_0_0_ok 16 rfl)))
  (e_Tok2
  (e_Lok (e_st (I := eI) (er_icmpeq (off := 9) (tg := 40) (x_dk dn_359_0_0_ok 17 rfl) (by decide)) nx_if2))
  (e_Lok (e_st (I := eI) (er_iinc (i := 3) (n := 1) (x_dk dn_359_0_0_ok 18 rfl) (by decide +kernel) (by decide)) nx_inc)))))
  (e_Tok2
  (e_Tok2
  (e_Lok (e_st (I := eI) (er_goto (off := (-35)) (tg := 2) (x_dk dn_359_0_0_ok 19 rfl) (by decide)) nx_goto))
  (e_Tok2
  (e_Lok (ld_iload_n_3 (x_dk dn_359_0_0_ok 20 rfl)))
  (e_Lok (ps_bipush_16 (x_dk dn_359_0_0_ok 21 rfl)))))
  (e_Tok2
  (e_Tok2
  (e_Lok (e_st (I := eI) (er_icmpne (off := 5) (tg := 48) (x_dk dn_359_0_0_ok 22 rfl) (by decide)) nx_if2))
  (e_Lok (ps_iconst_m1 (x_dk dn_359_0_0_ok 23 rfl))))
  (e_Tok2
  (e_Lok (e_rt (I := eI) (k := 1) ⟨(x_dk dn_359_0_0_ok 24 rfl), rfl⟩))
  (e_Lok (ld_iload_n_3 (x_dk dn_359_0_1_ok 0 rfl))))))))
def te_359_26 : Nat → eE := (e_T 73 (e_T 59 (e_T 54 (e_T 49 (e_L 49 (2, e_nof, 269, 1)) (e_T 52 (e_L 52 (0, ei_stor 4 0 54, 0, 0)) (e_L 54 (0, ei_push (0, 0) 55, 0, 0)))) (e_T 55 (e_L 55 (0, ei_stor 5 0 57, 0, 0)) (e_T 57 (e_L 57 (0, ei_load 5 0 59, 0, 0)) (e_L 59 (0, ei_push (0, 20) 61, 0, 0))))) (e_T 65 (e_T 61 (e_L 61 (0, ei_if2 3 81 64, 0, 0)) (e_T 64 (e_L 64 (0, ei_load 0 2 65, 0, 0)) (e_L 65 (0, ei_getf eft elay 12 0 68, 0, 0)))) (e_T 70 (e_T 68 (e_L 68 (0, ei_load 4 0 70, 0, 0)) (e_L 70 (0, ei_load 5 0 72, 0, 0))) (e_T 72 (e_L 72 (0, ei_bin eF_add 73, 0, 0)) (e_L 73 (0, ei_push (0, 0) 74, 0, 0)))))) (e_T 85 (e_T 78 (e_T 74 (e_L 74 (0, ei_ast elay false 75, 0, 0)) (e_T 75 (e_L 75 (0, ei_inc 5 1 78, 0, 0)) (e_L 78 (0, ei_goto 57, 0, 0)))) (e_T 81 (e_L 81 (0, ei_load 0 2 82, 0, 0)) (e_T 82 (e_L 82 (0, ei_getf eft elay 12 0 85, 0, 0)) (e_L 85 (0, ei_load 4 0 87, 0, 0))))) (e_T 89 (e_T 87 (e_L 87 (0, ei_push (0, 1) 88, 0, 0)) (e_T 88 (e_L 88 (0, ei_ast elay false 89, 0, 0)) (e_L 89 (0, ei_load 0 2 90, 0, 0)))) (e_T 93 (e_T 90 (e_L 90 (0, ei_getf eft elay 12 0 93, 0, 0)) (e_L 93 (0, ei_load 4 0 95, 0, 0))) (e_T 95 (e_L 95 (0, ei_push (0, 1) 96, 0, 0)) (e_L 96 (0, ei_bin eF_add 97, 0, 0)))))))
set_option maxRecDepth 20000 in
set_option maxHeartbeats 4000000 in
theorem te_359_26_ok : ∀ pc, e_EOq eft cls elay eI n_359 pc (te_359_26 pc) :=
  (e_Tok2
  (e_Tok2
  (e_Tok2
  (e_Tok2
  (e_Lok (lk_12_298 ho_359 (x_dk dn_359_0_1_ok 1 rfl)))
  (e_Tok2
  (e_Lok (e_st (I := eI) (er_istore (i := 4) (x_dk dn_359_0_1_ok 2 rfl) (by decide +kernel)) nx_stor))
  (e_Lok (ps_iconst_0 (x_dk dn_359_0_1_ok 3 rfl)))))
  (e_Tok2
  (e_Lok (e_st (I := eI) (er_istore (i := 5) (x_dk dn_359_0_1_ok 4 rfl) (by decide +kernel)) nx_stor))
  (e_Tok2
  (e_Lok (ld_iload_5 (x_dk dn_359_0_1_ok 5 rfl)))
  (e_Lok (ps_bipush_20 (x_dk dn_359_0_1_ok 6 rfl))))))
  (e_Tok2
  (e_Tok2
  (e_Lok (e_st (I := eI) (er_icmpge (off := 20) (tg := 81) (x_dk dn_359_0_1_ok 7 rfl) (by decide)) nx_if2))
  (e_Tok2
  (e_Lok (ld_aload_n_0 (x_dk dn_359_0_1_ok 8 rfl)))
  (e_Lok (lk_12_8g ho_359 (x_dk dn_359_0_1_ok 9 rfl)))))
  (e_Tok2
  (e_Tok2
  (e_Lok (ld_iload_4 (x_dk dn_359_0_1_ok 10 rfl)))
  (e_Lok (ld_iload_5 (x_dk dn_359_0_1_ok 11 rfl))))
  (e_Tok2
  (e_Lok (sm_iadd (x_dk dn_359_0_1_ok 12 rfl)))
  (e_Lok (ps_iconst_0 (x_dk dn_359_0_1_ok 13 rfl)))))))
  (e_Tok2
  (e_Tok2
  (e_Tok2
  (e_Lok (sm_iastore (x_dk dn_359_0_1_ok 14 rfl)))
  (e_Tok2
  (e_Lok (e_st (I := eI) (er_iinc (i := 5) (n := 1) (x_dk dn_359_0_1_ok 15 rfl) (by decide +kernel) (by decide)) nx_inc))
  (e_Lok (e_st (I := eI) (er_goto (off := (-21)) (tg := 57) (x_dk dn_359_0_1_ok 16 rfl) (by decide)) nx_goto))))
  (e_Tok2
  (e_Lok (ld_aload_n_0 (x_dk dn_359_0_1_ok 17 rfl)))
  (e_Tok2
  (e_Lok (lk_12_8g ho_359 (x_dk dn_359_0_1_ok 18 rfl)))
  (e_Lok (ld_iload_4 (x_dk dn_359_0_1_ok 19 rfl))))))
  (e_Tok2
  (e_Tok2
  (e_Lok (ps_iconst_1 (x_dk dn_359_0_1_ok 20 rfl)))
  (e_Tok2
  (e_Lok (sm_iastore (x_dk dn_359_0_1_ok 21 rfl)))
  (e_Lok (ld_aload_n_0 (x_dk dn_359_0_1_ok 22 rfl)))))
  (e_Tok2
  (e_Tok2
  (e_Lok (lk_12_8g ho_359 (x_dk dn_359_0_1_ok 23 rfl)))
  (e_Lok (ld_iload_4 (x_dk dn_359_0_1_ok 24 rfl))))
  (e_Tok2
  (e_Lok (ps_iconst_1 (x_dk dn_359_0_2_ok 0 rfl)))
  (e_Lok (sm_iadd (x_dk dn_359_0_2_ok 1 rfl))))))))
def te_359_52 : Nat → eE := (e_T 116 (e_T 105 (e_T 99 (e_T 97 (e_L 97 (0, ei_load 1 0 98, 0, 0)) (e_T 98 (e_L 98 (0, ei_ast elay false 99, 0, 0)) (e_L 99 (0, ei_load 0 2 100, 0, 0)))) (e_T 100 (e_L 100 (0, ei_getf eft elay 12 0 103, 0, 0)) (e_T 103 (e_L 103 (0, ei_load 4 0 105, 0, 0)) (e_L 105 (0, ei_push (0, 8) 107, 0, 0))))) (e_T 109 (e_T 107 (e_L 107 (0, ei_bin eF_add 108, 0, 0)) (e_T 108 (e_L 108 (0, ei_push (0, (-1)) 109, 0, 0)) (e_L 109 (0, ei_ast elay false 110, 0, 0)))) (e_T 111 (e_T 110 (e_L 110 (0, ei_load 0 2 111, 0, 0)) (e_L 111 (0, ei_getf eft elay 12 0 114, 0, 0))) (e_T 114 (e_L 114 (0, ei_load 4 0 116, 0, 0)) (e_L 116 (0, ei_push (0, 11) 118, 0, 0)))))) (e_T 125 (e_T 120 (e_T 118 (e_L 118 (0, ei_bin eF_add 119, 0, 0)) (e_T 119 (e_L 119 (0, ei_load 0 2 120, 0, 0)) (e_L 120 (0, ei_getf eft elay 12 0 123, 0, 0)))) (e_T 123 (e_L 123 (0, ei_push (0, 0) 124, 0, 0)) (e_T 124 (e_L 124 (0, ei_ald elay false 125, 0, 0)) (e_L 125 (0, ei_push (0, 1) 126, 0, 0))))) (e_T 128 (e_T 126 (e_L 126 (0, ei_bin eF_add 127, 0, 0)) (e_T 127 (e_L 127 (0, ei_ast elay false 128, 0, 0)) (e_L 128 (0, ei_load 0 2 129, 0, 0)))) (e_T 132 (e_T 129 (e_L 129 (0, ei_getf eft elay 12 0 132, 0, 0)) (e_L 132 (0, ei_load 4 0 134, 0, 0))) (e_T 134 (e_L 134 (0, ei_push (0, 12) 136, 0, 0)) (e_L 136 (0, ei_bin eF_add 137, 0, 0)))))))
set_option maxRecDepth 20000 in
set_option maxHeartbeats 4000000 in
theorem te_359_52_ok : ∀ pc, e_EOq eft cls elay eI n_359 pc (te_359_52 pc) :=
  (e_Tok2
  (e_Tok2
  (e_Tok2
  (e_Tok2
  (e_Lok (ld_iload_n_1 (x_dk dn_359_0_2_ok 2 rfl)))
  (e_Tok2
  (e_Lok (sm_iastore (x_dk dn_359_0_2_ok 3 rfl)))
  (e_Lok (ld_aload_n_0 (x_dk dn_359_0_2_ok 4 rfl)))))
  (e_Tok2
  (e_Lok (lk_12_8g ho_359 (x_dk dn_359_0_2_ok 5 rfl)))
  (e_Tok2
  (e_Lok (ld_iload_4 (x_dk dn_359_0_2_ok 6 rfl)))
  (e_Lok (ps_bipush_8 (x_dk dn_359_0_2_ok 7 rfl))))))
  (e_Tok2
  (e_Tok2
  (e_Lok (sm_iadd (x_dk dn_359_0_2_ok 8 rfl)))
  (e_Tok2
  (e_Lok (ps_iconst_m1 (x_dk dn_359_0_2_ok 9 rfl)))
  (e_Lok (sm_iastore (x_dk dn_359_0_2_ok 10 rfl)))))
  (e_Tok2
  (e_Tok2
  (e_Lok (ld_aload_n_0 (x_dk dn_359_0_2_ok 11 rfl)))
  (e_Lok (lk_12_8g ho_359 (x_dk dn_359_0_2_ok 12 rfl))))
  (e_Tok2
  (e_Lok (ld_iload_4 (x_dk dn_359_0_2_ok 13 rfl)))
  (e_Lok (ps_bipush_11 (x_dk dn_359_0_2_ok 14 rfl)))))))
  (e_Tok2
  (e_Tok2
  (e_Tok2
  (e_Lok (sm_iadd (x_dk dn_359_0_2_ok 15 rfl)))
  (e_Tok2
  (e_Lok (ld_aload_n_0 (x_dk dn_359_0_2_ok 16 rfl)))
  (e_Lok (lk_12_8g ho_359 (x_dk dn_359_0_2_ok 17 rfl)))))
  (e_Tok2
  (e_Lok (ps_iconst_0 (x_dk dn_359_0_2_ok 18 rfl)))
  (e_Tok2
  (e_Lok (sm_iaload (x_dk dn_359_0_2_ok 19 rfl)))
  (e_Lok (ps_iconst_1 (x_dk dn_359_0_2_ok 20 rfl))))))
  (e_Tok2
  (e_Tok2
  (e_Lok (sm_iadd (x_dk dn_359_0_2_ok 21 rfl)))
  (e_Tok2
  (e_Lok (sm_iastore (x_dk dn_359_0_2_ok 22 rfl)))
  (e_Lok (ld_aload_n_0 (x_dk dn_359_0_2_ok 23 rfl)))))
  (e_Tok2
  (e_Tok2
  (e_Lok (lk_12_8g ho_359 (x_dk dn_359_0_2_ok 24 rfl)))
  (e_Lok (ld_iload_4 (x_dk dn_359_0_3_ok 0 rfl))))
  (e_Tok2
  (e_Lok (ps_bipush_12 (x_dk dn_359_0_3_ok 1 rfl)))
  (e_Lok (sm_iadd (x_dk dn_359_0_3_ok 2 rfl))))))))
def te_359_78 : Nat → eE := (e_T 156 (e_T 145 (e_T 139 (e_T 137 (e_L 137 (0, ei_push (0, 1) 138, 0, 0)) (e_T 138 (e_L 138 (0, ei_ast elay false 139, 0, 0)) (e_L 139 (0, ei_load 0 2 140, 0, 0)))) (e_T 140 (e_L 140 (0, ei_getf eft elay 12 0 143, 0, 0)) (e_T 143 (e_L 143 (0, ei_load 4 0 145, 0, 0)) (e_L 145 (0, ei_push (0, 20) 147, 0, 0))))) (e_T 149 (e_T 147 (e_L 147 (0, ei_bin eF_add 148, 0, 0)) (e_T 148 (e_L 148 (0, ei_load 0 2 149, 0, 0)) (e_L 149 (0, ei_getf eft elay 12 74 152, 0, 0)))) (e_T 154 (e_T 152 (e_L 152 (0, ei_push (0, 32) 154, 0, 0)) (e_L 154 (0, ei_load 1 0 155, 0, 0))) (e_T 155 (e_L 155 (0, ei_bin eF_mul 156, 0, 0)) (e_L 156 (0, ei_load 2 0 157, 0, 0)))))) (e_T 166 (e_T 159 (e_T 157 (e_L 157 (0, ei_bin eF_add 158, 0, 0)) (e_T 158 (e_L 158 (0, ei_ald elay false 159, 0, 0)) (e_L 159 (0, ei_ast elay false 160, 0, 0)))) (e_T 161 (e_T 160 (e_L 160 (0, ei_load 0 2 161, 0, 0)) (e_L 161 (0, ei_getf eft elay 12 0 164, 0, 0))) (e_T 164 (e_L 164 (0, ei_load 4 0 166, 0, 0)) (e_L 166 (0, ei_push (0, 20) 168, 0, 0))))) (e_T 170 (e_T 168 (e_L 168 (0, ei_bin eF_add 169, 0, 0)) (e_T 169 (e_L 169 (0, ei_push (0, 1) 170, 0, 0)) (e_L 170 (0, ei_bin eF_add 171, 0, 0)))) (e_T 172 (e_T 171 (e_L 171 (0, ei_push (0, 0) 172, 0, 0)) (e_L 172 (0, ei_ast elay false 173, 0, 0))) (e_T 173 (e_L 173 (0, ei_load 3 0 174, 0, 0)) (e_L 174 (1, e_nof, 1, 0)))))))
set_option maxRecDepth 20000 in
set_option maxHeartbeats 4000000 in
theorem te_359_78_ok : ∀ pc, e_EOq eft cls elay eI n_359 pc (te_359_78 pc) :=
  (e_Tok2
  (e_Tok2
  (e_Tok2
  (e_Tok2
  (e_Lok (ps_iconst_1 (x_dk dn_359_0_3_ok 3 rfl)))
  (e_Tok2
  (e_Lok (sm_iastore (x_dk dn_359_0_3_ok 4 rfl)))
  (e_Lok (ld_aload_n_0 (x_dk dn_359_0_3_ok 5 rfl)))))
  (e_Tok2
  (e_Lok (lk_12_8g ho_359 (x_dk dn_359_0_3_ok 6 rfl)))
  (e_Tok2
  (e_Lok (ld_iload_4 (x_dk dn_359_0_3_ok 7 rfl)))
  (e_Lok (ps_bipush_20 (x_dk dn_359_0_3_ok 8 rfl))))))
  (e_Tok2
  (e_Tok2
  (e_Lok (sm_iadd (x_dk dn_359_0_3_ok 9 rfl)))
  (e_Tok2
  (e_Lok (ld_aload_n_0 (x_dk dn_359_0_3_ok 10 rfl)))
  (e_Lok (lk_12_198g ho_359 (x_dk dn_359_0_3_ok 11 rfl)))))
  (e_Tok2
  (e_Tok2
  (e_Lok (ps_bipush_32 (x_dk dn_359_0_3_ok 12 rfl)))
  (e_Lok (ld_iload_n_1 (x_dk dn_359_0_3_ok 13 rfl))))
  (e_Tok2
  (e_Lok (sm_imul (x_dk dn_359_0_3_ok 14 rfl)))
  (e_Lok (ld_iload_n_2 (x_dk dn_359_0_3_ok 15 rfl)))))))
  (e_Tok2
  (e_Tok2
  (e_Tok2
  (e_Lok (sm_iadd (x_dk dn_359_0_3_ok 16 rfl)))
  (e_Tok2
  (e_Lok (sm_iaload (x_dk dn_359_0_3_ok 17 rfl)))
  (e_Lok (sm_iastore (x_dk dn_359_0_3_ok 18 rfl)))))
  (e_Tok2
  (e_Tok2
  (e_Lok (ld_aload_n_0 (x_dk dn_359_0_3_ok 19 rfl)))
  (e_Lok (lk_12_8g ho_359 (x_dk dn_359_0_3_ok 20 rfl))))
  (e_Tok2
  (e_Lok (ld_iload_4 (x_dk dn_359_0_3_ok 21 rfl)))
  (e_Lok (ps_bipush_20 (x_dk dn_359_0_3_ok 22 rfl))))))
  (e_Tok2
  (e_Tok2
  (e_Lok (sm_iadd (x_dk dn_359_0_3_ok 23 rfl)))
  (e_Tok2
  (e_Lok (ps_iconst_1 (x_dk dn_359_0_3_ok 24 rfl)))
  (e_Lok (sm_iadd (x_dk dn_359_1_0_ok 0 rfl)))))
  (e_Tok2
  (e_Tok2
  (e_Lok (ps_iconst_0 (x_dk dn_359_1_0_ok 1 rfl)))
  (e_Lok (sm_iastore (x_dk dn_359_1_0_ok 2 rfl))))
  (e_Tok2
  (e_Lok (ld_iload_n_3 (x_dk dn_359_1_0_ok 3 rfl)))
  (e_Lok (e_rt (I := eI) (k := 1) ⟨(x_dk dn_359_1_0_ok 4 rfl), rfl⟩)))))))
def te_359 : Nat → eE := (e_T 96 (e_T 48 te_359_0 te_359_26) (e_T 136 te_359_52 te_359_78))
theorem te_359_ok : ∀ pc, e_EOq eft cls elay eI n_359 pc (te_359 pc) := (e_Tok2 ((e_Tok2 (te_359_0_ok) (te_359_26_ok))) ((e_Tok2 (te_359_52_ok) (te_359_78_ok))))
theorem ho_360 : (xm_y n_360).cls = "RobotCellHouseModel" := rfl
def dn_360_0_0 : List (Nat × Instr × Nat) := [(0, .iconst (-1), 1), (1, .istore_n 2, 1), (2, .iconst 0, 1), (3, .istore_n 3, 1), (4, .iload_n 3, 1), (5, .bipush 16, 2), (7, .if_icmp .ge 70, 3), (10, .iload_n 3, 1), (11, .invokestatic 298, 3), (14, .istore 4, 2), (16, .aload_n 0, 1), (17, .getfield 8, 3), (20, .iload 4, 2), (22, .iaload, 1), (23, .iconst 5, 1), (24, .if_icmp .ne 47, 3), (27, .aload_n 0, 1), (28, .getfield 8, 3), (31, .iload 4, 2), (33, .iconst 5, 1), (34, .iadd, 1), (35, .iaload, 1), (36, .iload_n 1, 1), (37, .if_icmp .ne 34, 3), (40, .iload_n 2, 1)]
set_option maxRecDepth 20000 in
theorem dn_360_0_0_ok : dn_360_0_0.all (fun q => decide (decode (xm_b n_360) q.1 = .ok (q.2.1, q.2.2))) = true := xa_g_ok (by decide +kernel)
def dn_360_0_1 : List (Nat × Instr × Nat) := [(41, .ifCond .lt 28, 3), (44, .aload_n 0, 1), (45, .getfield 8, 3), (48, .iload 4, 2), (50, .bipush 6, 2), (52, .iadd, 1), (53, .iaload, 1), (54, .aload_n 0, 1), (55, .getfield 8, 3), (58, .iload_n 2, 1), (59, .invokestatic 298, 3), (62, .bipush 6, 2), (64, .iadd, 1), (65, .iaload, 1), (66, .if_icmp .ge 5, 3), (69, .iload_n 3, 1), (70, .istore_n 2, 1), (71, .iinc 3 1, 3), (74, .goto (-70), 3), (77, .aload_n 0, 1), (78, .getfield 8, 3), (81, .sipush 20868, 3), (84, .iload_n 1, 1), (85, .iadd, 1), (86, .iload_n 2, 1)]
set_option maxRecDepth 20000 in
theorem dn_360_0_1_ok : dn_360_0_1.all (fun q => decide (decode (xm_b n_360) q.1 = .ok (q.2.1, q.2.2))) = true := xa_g_ok (by decide +kernel)
def dn_360_0_2 : List (Nat × Instr × Nat) := [(87, .iastore, 1), (88, .return_, 1)]
set_option maxRecDepth 20000 in
theorem dn_360_0_2_ok : dn_360_0_2.all (fun q => decide (decode (xm_b n_360) q.1 = .ok (q.2.1, q.2.2))) = true := xa_g_ok (by decide +kernel)
def te_360_0 : Nat → eE := (e_T 20 (e_T 5 (e_T 2 (e_T 0 (e_L 0 (0, ei_push (0, (-1)) 1, 0, 0)) (e_T 1 (e_L 1 (0, ei_stor 2 0 2, 0, 0)) (e_L 2 (0, ei_push (0, 0) 3, 0, 0)))) (e_T 3 (e_L 3 (0, ei_stor 3 0 4, 0, 0)) (e_T 4 (e_L 4 (0, ei_load 3 0 5, 0, 0)) (e_L 5 (0, ei_push (0, 16) 7, 0, 0))))) (e_T 11 (e_T 7 (e_L 7 (0, ei_if2 3 77 10, 0, 0)) (e_T 10 (e_L 10 (0, ei_load 3 0 11, 0, 0)) (e_L 11 (2, e_nof, 269, 1)))) (e_T 16 (e_T 14 (e_L 14 (0, ei_stor 4 0 16, 0, 0)) (e_L 16 (0, ei_load 0 2 17, 0, 0))) (e_T 17 (e_L 17 (0, ei_getf eft elay 12 0 20, 0, 0)) (e_L 20 (0, ei_load 4 0 22, 0, 0)))))) (e_T 31 (e_T 24 (e_T 22 (e_L 22 (0, ei_ald elay false 23, 0, 0)) (e_T 23 (e_L 23 (0, ei_push (0, 5) 24, 0, 0)) (e_L 24 (0, ei_if2 1 71 27, 0, 0)))) (e_T 27 (e_L 27 (0, ei_load 0 2 28, 0, 0)) (e_T 28 (e_L 28 (0, ei_getf eft elay 12 0 31, 0, 0)) (e_L 31 (0, ei_load 4 0 33, 0, 0))))) (e_T 35 (e_T 33 (e_L 33 (0, ei_push (0, 5) 34, 0, 0)) (e_T 34 (e_L 34 (0, ei_bin eF_add 35, 0, 0)) (e_L 35 (0, ei_ald elay false 36, 0, 0)))) (e_T 37 (e_T 36 (e_L 36 (0, ei_load 1 0 37, 0, 0)) (e_L 37 (0, ei_if2 1 71 40, 0, 0))) (e_T 40 (e_L 40 (0, ei_load 2 0 41, 0, 0)) (e_L 41 (0, ei_if1 2 69 44, 0, 0)))))))
set_option maxRecDepth 20000 in
set_option maxHeartbeats 4000000 in
theorem te_360_0_ok : ∀ pc, e_EOq eft cls elay eI n_360 pc (te_360_0 pc) :=
  (e_Tok2
  (e_Tok2
  (e_Tok2
  (e_Tok2
  (e_Lok (ps_iconst_m1 (x_dk dn_360_0_0_ok 0 rfl)))
  (e_Tok2
  (e_Lok (e_st (I := eI) (er_istore_n (i := 2) (x_dk dn_360_0_0_ok 1 rfl) (by decide +kernel)) nx_stor))
  (e_Lok (ps_iconst_0 (x_dk dn_360_0_0_ok 2 rfl)))))
  (e_Tok2
  (e_Lok (e_st (I := eI) (er_istore_n (i := 3) (x_dk dn_360_0_0_ok 3 rfl) (by decide +kernel)) nx_stor))
  (e_Tok2
  (e_Lok (ld_iload_n_3 (x_dk dn_360_0_0_ok 4 rfl)))
  (e_Lok (ps_bipush_16 (x_dk dn_360_0_0_ok 5 rfl))))))
  (e_Tok2
  (e_Tok2
  (e_Lok (e_st (I := eI) (er_icmpge (off := 70) (tg := 77) (x_dk dn_360_0_0_ok 6 rfl) (by decide)) nx_if2))
  (e_Tok2
  (e_Lok (ld_iload_n_3 (x_dk dn_360_0_0_ok 7 rfl)))
  (e_Lok (lk_12_298 ho_360 (x_dk dn_360_0_0_ok 8 rfl)))))
  (e_Tok2
  (e_Tok2
  (e_Lok (e_st (I := eI) (er_istore (i := 4) (x_dk dn_360_0_0_ok 9 rfl) (by decide +kernel)) nx_stor))
  (e_Lok (ld_aload_n_0 (x_dk dn_360_0_0_ok 10 rfl))))
  (e_Tok2
  (e_Lok (lk_12_8g ho_360 (x_dk dn_360_0_0_ok 11 rfl)))
  (e_Lok (ld_iload_4 (x_dk dn_360_0_0_ok 12 rfl)))))))
  (e_Tok2
  (e_Tok2
  (e_Tok2
  (e_Lok (sm_iaload (x_dk dn_360_0_0_ok 13 rfl)))
  (e_Tok2
  (e_Lok (ps_iconst_5 (x_dk dn_360_0_0_ok 14 rfl)))
  (e_Lok (e_st (I := eI) (er_icmpne (off := 47) (tg := 71) (x_dk dn_360_0_0_ok 15 rfl) (by decide)) nx_if2))))
  (e_Tok2
  (e_Lok (ld_aload_n_0 (x_dk dn_360_0_0_ok 16 rfl)))
  (e_Tok2
  (e_Lok (lk_12_8g ho_360 (x_dk dn_360_0_0_ok 17 rfl)))
  (e_Lok (ld_iload_4 (x_dk dn_360_0_0_ok 18 rfl))))))
  (e_Tok2
  (e_Tok2
  (e_Lok (ps_iconst_5 (x_dk dn_360_0_0_ok 19 rfl)))
  (e_Tok2
  (e_Lok (sm_iadd (x_dk dn_360_0_0_ok 20 rfl)))
  (e_Lok (sm_iaload (x_dk dn_360_0_0_ok 21 rfl)))))
  (e_Tok2
  (e_Tok2
  (e_Lok (ld_iload_n_1 (x_dk dn_360_0_0_ok 22 rfl)))
  (e_Lok (e_st (I := eI) (er_icmpne (off := 34) (tg := 71) (x_dk dn_360_0_0_ok 23 rfl) (by decide)) nx_if2)))
  (e_Tok2
  (e_Lok (ld_iload_n_2 (x_dk dn_360_0_0_ok 24 rfl)))
  (e_Lok (e_st (I := eI) (er_iflt (off := 28) (tg := 69) (x_dk dn_360_0_1_ok 0 rfl) (by decide)) nx_if1)))))))
def te_360_26 : Nat → eE := (e_T 65 (e_T 53 (e_T 48 (e_T 44 (e_L 44 (0, ei_load 0 2 45, 0, 0)) (e_T 45 (e_L 45 (0, ei_getf eft elay 12 0 48, 0, 0)) (e_L 48 (0, ei_load 4 0 50, 0, 0)))) (e_T 50 (e_L 50 (0, ei_push (0, 6) 52, 0, 0)) (e_T 52 (e_L 52 (0, ei_bin eF_add 53, 0, 0)) (e_L 53 (0, ei_ald elay false 54, 0, 0))))) (e_T 58 (e_T 54 (e_L 54 (0, ei_load 0 2 55, 0, 0)) (e_T 55 (e_L 55 (0, ei_getf eft elay 12 0 58, 0, 0)) (e_L 58 (0, ei_load 2 0 59, 0, 0)))) (e_T 62 (e_T 59 (e_L 59 (2, e_nof, 269, 1)) (e_L 62 (0, ei_push (0, 6) 64, 0, 0))) (e_T 64 (e_L 64 (0, ei_bin eF_add 65, 0, 0)) (e_L 65 (0, ei_ald elay false 66, 0, 0)))))) (e_T 77 (e_T 70 (e_T 66 (e_L 66 (0, ei_if2 3 71 69, 0, 0)) (e_T 69 (e_L 69 (0, ei_load 3 0 70, 0, 0)) (e_L 70 (0, ei_stor 2 0 71, 0, 0)))) (e_T 71 (e_L 71 (0, ei_inc 3 1 74, 0, 0)) (e_T 74 (e_L 74 (0, ei_goto 4, 0, 0)) (e_L 77 (0, ei_load 0 2 78, 0, 0))))) (e_T 84 (e_T 78 (e_L 78 (0, ei_getf eft elay 12 0 81, 0, 0)) (e_T 81 (e_L 81 (0, ei_push (0, 20868) 84, 0, 0)) (e_L 84 (0, ei_load 1 0 85, 0, 0)))) (e_T 86 (e_T 85 (e_L 85 (0, ei_bin eF_add 86, 0, 0)) (e_L 86 (0, ei_load 2 0 87, 0, 0))) (e_T 87 (e_L 87 (0, ei_ast elay false 88, 0, 0)) (e_L 88 (1, e_nof, 0, 0)))))))
set_option maxRecDepth 20000 in
set_option maxHeartbeats 4000000 in
theorem te_360_26_ok : ∀ pc, e_EOq eft cls elay eI n_360 pc (te_360_26 pc) :=
  (e_Tok2
  (e_Tok2
  (e_Tok2
  (e_Tok2
  (e_Lok (ld_aload_n_0 (x_dk dn_360_0_1_ok 1 rfl)))
  (e_Tok2
  (e_Lok (lk_12_8g ho_360 (x_dk dn_360_0_1_ok 2 rfl)))
  (e_Lok (ld_iload_4 (x_dk dn_360_0_1_ok 3 rfl)))))
  (e_Tok2
  (e_Lok (ps_bipush_6 (x_dk dn_360_0_1_ok 4 rfl)))
  (e_Tok2
  (e_Lok (sm_iadd (x_dk dn_360_0_1_ok 5 rfl)))
  (e_Lok (sm_iaload (x_dk dn_360_0_1_ok 6 rfl))))))
  (e_Tok2
  (e_Tok2
  (e_Lok (ld_aload_n_0 (x_dk dn_360_0_1_ok 7 rfl)))
  (e_Tok2
  (e_Lok (lk_12_8g ho_360 (x_dk dn_360_0_1_ok 8 rfl)))
  (e_Lok (ld_iload_n_2 (x_dk dn_360_0_1_ok 9 rfl)))))
  (e_Tok2
  (e_Tok2
  (e_Lok (lk_12_298 ho_360 (x_dk dn_360_0_1_ok 10 rfl)))
  (e_Lok (ps_bipush_6 (x_dk dn_360_0_1_ok 11 rfl))))
  (e_Tok2
  (e_Lok (sm_iadd (x_dk dn_360_0_1_ok 12 rfl)))
  (e_Lok (sm_iaload (x_dk dn_360_0_1_ok 13 rfl)))))))
  (e_Tok2
  (e_Tok2
  (e_Tok2
  (e_Lok (e_st (I := eI) (er_icmpge (off := 5) (tg := 71) (x_dk dn_360_0_1_ok 14 rfl) (by decide)) nx_if2))
  (e_Tok2
  (e_Lok (ld_iload_n_3 (x_dk dn_360_0_1_ok 15 rfl)))
  (e_Lok (e_st (I := eI) (er_istore_n (i := 2) (x_dk dn_360_0_1_ok 16 rfl) (by decide +kernel)) nx_stor))))
  (e_Tok2
  (e_Lok (e_st (I := eI) (er_iinc (i := 3) (n := 1) (x_dk dn_360_0_1_ok 17 rfl) (by decide +kernel) (by decide)) nx_inc))
  (e_Tok2
  (e_Lok (e_st (I := eI) (er_goto (off := (-70)) (tg := 4) (x_dk dn_360_0_1_ok 18 rfl) (by decide)) nx_goto))
  (e_Lok (ld_aload_n_0 (x_dk dn_360_0_1_ok 19 rfl))))))
  (e_Tok2
  (e_Tok2
  (e_Lok (lk_12_8g ho_360 (x_dk dn_360_0_1_ok 20 rfl)))
  (e_Tok2
  (e_Lok (ps_sipush_20868 (x_dk dn_360_0_1_ok 21 rfl)))
  (e_Lok (ld_iload_n_1 (x_dk dn_360_0_1_ok 22 rfl)))))
  (e_Tok2
  (e_Tok2
  (e_Lok (sm_iadd (x_dk dn_360_0_1_ok 23 rfl)))
  (e_Lok (ld_iload_n_2 (x_dk dn_360_0_1_ok 24 rfl))))
  (e_Tok2
  (e_Lok (sm_iastore (x_dk dn_360_0_2_ok 0 rfl)))
  (e_Lok (e_rt (I := eI) (k := 0) ⟨(x_dk dn_360_0_2_ok 1 rfl), rfl⟩)))))))
def te_360 : Nat → eE := (e_T 41 te_360_0 te_360_26)
theorem te_360_ok : ∀ pc, e_EOq eft cls elay eI n_360 pc (te_360 pc) := (e_Tok2 (te_360_0_ok) (te_360_26_ok))
theorem ho_361 : (xm_y n_361).cls = "RobotCellHouseModel" := rfl
def dn_361_0_0 : List (Nat × Instr × Nat) := [(0, .iconst 0, 1), (1, .istore_n 2, 1), (2, .iload_n 2, 1), (3, .bipush 8, 2), (5, .if_icmp .ge 28, 3), (8, .aload_n 0, 1), (9, .getfield 8, 3), (12, .sipush 20868, 3), (15, .iload_n 2, 1), (16, .iadd, 1), (17, .iaload, 1), (18, .iload_n 1, 1), (19, .if_icmp .ne 8, 3), (22, .aload_n 0, 1), (23, .iload_n 2, 1), (24, .invokevirtual 648, 3), (27, .iinc 2 1, 3), (30, .goto (-28), 3), (33, .return_, 1)]
set_option maxRecDepth 20000 in
theorem dn_361_0_0_ok : dn_361_0_0.all (fun q => decide (decode (xm_b n_361) q.1 = .ok (q.2.1, q.2.2))) = true := xa_g_ok (by decide +kernel)
def te_361_0 : Nat → eE := (e_T 15 (e_T 3 (e_T 1 (e_T 0 (e_L 0 (0, ei_push (0, 0) 1, 0, 0)) (e_L 1 (0, ei_stor 2 0 2, 0, 0))) (e_T 2 (e_L 2 (0, ei_load 2 0 3, 0, 0)) (e_L 3 (0, ei_push (0, 8) 5, 0, 0)))) (e_T 8 (e_T 5 (e_L 5 (0, ei_if2 3 33 8, 0, 0)) (e_L 8 (0, ei_load 0 2 9, 0, 0))) (e_T 9 (e_L 9 (0, ei_getf eft elay 12 0 12, 0, 0)) (e_T 12 (e_L 12 (0, ei_push (0, 20868) 15, 0, 0)) (e_L 15 (0, ei_load 2 0 16, 0, 0)))))) (e_T 22 (e_T 17 (e_T 16 (e_L 16 (0, ei_bin eF_add 17, 0, 0)) (e_L 17 (0, ei_ald elay false 18, 0, 0))) (e_T 18 (e_L 18 (0, ei_load 1 0 19, 0, 0)) (e_T 19 (e_L 19 (0, ei_if2 1 27 22, 0, 0)) (e_L 22 (0, ei_load 0 2 23, 0, 0))))) (e_T 24 (e_T 23 (e_L 23 (0, ei_load 2 0 24, 0, 0)) (e_L 24 (2, e_nof, 360, 2))) (e_T 27 (e_L 27 (0, ei_inc 2 1 30, 0, 0)) (e_T 30 (e_L 30 (0, ei_goto 2, 0, 0)) (e_L 33 (1, e_nof, 0, 0)))))))
set_option maxRecDepth 20000 in
set_option maxHeartbeats 4000000 in
theorem te_361_0_ok : ∀ pc, e_EOq eft cls elay eI n_361 pc (te_361_0 pc) :=
  (e_Tok2
  (e_Tok2
  (e_Tok2
  (e_Tok2
  (e_Lok (ps_iconst_0 (x_dk dn_361_0_0_ok 0 rfl)))
  (e_Lok (e_st (I := eI) (er_istore_n (i := 2) (x_dk dn_361_0_0_ok 1 rfl) (by decide +kernel)) nx_stor)))
  (e_Tok2
  (e_Lok (ld_iload_n_2 (x_dk dn_361_0_0_ok 2 rfl)))
  (e_Lok (ps_bipush_8 (x_dk dn_361_0_0_ok 3 rfl)))))
  (e_Tok2
  (e_Tok2
  (e_Lok (e_st (I := eI) (er_icmpge (off := 28) (tg := 33) (x_dk dn_361_0_0_ok 4 rfl) (by decide)) nx_if2))
  (e_Lok (ld_aload_n_0 (x_dk dn_361_0_0_ok 5 rfl))))
  (e_Tok2
  (e_Lok (lk_12_8g ho_361 (x_dk dn_361_0_0_ok 6 rfl)))
  (e_Tok2
  (e_Lok (ps_sipush_20868 (x_dk dn_361_0_0_ok 7 rfl)))
  (e_Lok (ld_iload_n_2 (x_dk dn_361_0_0_ok 8 rfl)))))))
  (e_Tok2
  (e_Tok2
  (e_Tok2
  (e_Lok (sm_iadd (x_dk dn_361_0_0_ok 9 rfl)))
  (e_Lok (sm_iaload (x_dk dn_361_0_0_ok 10 rfl))))
  (e_Tok2
  (e_Lok (ld_iload_n_1 (x_dk dn_361_0_0_ok 11 rfl)))
  (e_Tok2
  (e_Lok (e_st (I := eI) (er_icmpne (off := 8) (tg := 27) (x_dk dn_361_0_0_ok 12 rfl) (by decide)) nx_if2))
  (e_Lok (ld_aload_n_0 (x_dk dn_361_0_0_ok 13 rfl))))))
  (e_Tok2
  (e_Tok2
  (e_Lok (ld_iload_n_2 (x_dk dn_361_0_0_ok 14 rfl)))
  (e_Lok (lk_12_648 ho_361 (x_dk dn_361_0_0_ok 15 rfl))))
  (e_Tok2
  (e_Lok (e_st (I := eI) (er_iinc (i := 2) (n := 1) (x_dk dn_361_0_0_ok 16 rfl) (by decide +kernel) (by decide)) nx_inc))
  (e_Tok2
  (e_Lok (e_st (I := eI) (er_goto (off := (-28)) (tg := 2) (x_dk dn_361_0_0_ok 17 rfl) (by decide)) nx_goto))
  (e_Lok (e_rt (I := eI) (k := 0) ⟨(x_dk dn_361_0_0_ok 18 rfl), rfl⟩)))))))
def te_361 : Nat → eE := te_361_0
theorem te_361_ok : ∀ pc, e_EOq eft cls elay eI n_361 pc (te_361 pc) := te_361_0_ok
theorem ho_362 : (xm_y n_362).cls = "RobotCellHouseModel" := rfl
def dn_362_0_0 : List (Nat × Instr × Nat) := [(0, .aload_n 0, 1), (1, .getfield 651, 3), (4, .bipush 20, 2), (6, .iadd, 1), (7, .iconst 2, 1), (8, .aload_n 0, 1), (9, .getfield 8, 3), (12, .aload_n 0, 1), (13, .getfield 651, 3), (16, .bipush 12, 2), (18, .iadd, 1), (19, .iaload, 1), (20, .iconst 1, 1), (21, .isub, 1), (22, .imul, 1), (23, .iadd, 1), (24, .ireturn, 1)]
set_option maxRecDepth 20000 in
theorem dn_362_0_0_ok : dn_362_0_0.all (fun q => decide (decode (xm_b n_362) q.1 = .ok (q.2.1, q.2.2))) = true := xa_g_ok (by decide +kernel)
def te_362_0 : Nat → eE := (e_T 12 (e_T 6 (e_T 1 (e_T 0 (e_L 0 (0, ei_load 0 2 1, 0, 0)) (e_L 1 (0, ei_getf eft elay 12 97 4, 0, 0))) (e_T 4 (e_L 4 (0, ei_push (0, 20) 6, 0, 0)) (e_L 6 (0, ei_bin eF_add 7, 0, 0)))) (e_T 8 (e_T 7 (e_L 7 (0, ei_push (0, 2) 8, 0, 0)) (e_L 8 (0, ei_load 0 2 9, 0, 0))) (e_T 9 (e_L 9 (0, ei_getf eft elay 12 0 12, 0, 0)) (e_L 12 (0, ei_load 0 2 13, 0, 0))))) (e_T 19 (e_T 16 (e_T 13 (e_L 13 (0, ei_getf eft elay 12 97 16, 0, 0)) (e_L 16 (0, ei_push (0, 12) 18, 0, 0))) (e_T 18 (e_L 18 (0, ei_bin eF_add 19, 0, 0)) (e_L 19 (0, ei_ald elay false 20, 0, 0)))) (e_T 21 (e_T 20 (e_L 20 (0, ei_push (0, 1) 21, 0, 0)) (e_L 21 (0, ei_bin eF_sub 22, 0, 0))) (e_T 22 (e_L 22 (0, ei_bin eF_mul 23, 0, 0)) (e_T 23 (e_L 23 (0, ei_bin eF_add 24, 0, 0)) (e_L 24 (1, e_nof, 1, 0)))))))
set_option maxRecDepth 20000 in
set_option maxHeartbeats 4000000 in
theorem te_362_0_ok : ∀ pc, e_EOq eft cls elay eI n_362 pc (te_362_0 pc) :=
  (e_Tok2
  (e_Tok2
  (e_Tok2
  (e_Tok2
  (e_Lok (ld_aload_n_0 (x_dk dn_362_0_0_ok 0 rfl)))
  (e_Lok (lk_12_651g ho_362 (x_dk dn_362_0_0_ok 1 rfl))))
  (e_Tok2
  (e_Lok (ps_bipush_20 (x_dk dn_362_0_0_ok 2 rfl)))
  (e_Lok (sm_iadd (x_dk dn_362_0_0_ok 3 rfl)))))
  (e_Tok2
  (e_Tok2
  (e_Lok (ps_iconst_2 (x_dk dn_362_0_0_ok 4 rfl)))
  (e_Lok (ld_aload_n_0 (x_dk dn_362_0_0_ok 5 rfl))))
  (e_Tok2
  (e_Lok (lk_12_8g ho_362 (x_dk dn_362_0_0_ok 6 rfl)))
  (e_Lok (ld_aload_n_0 (x_dk dn_362_0_0_ok 7 rfl))))))
  (e_Tok2
  (e_Tok2
  (e_Tok2
  (e_Lok (lk_12_651g ho_362 (x_dk dn_362_0_0_ok 8 rfl)))
  (e_Lok (ps_bipush_12 (x_dk dn_362_0_0_ok 9 rfl))))
  (e_Tok2
  (e_Lok (sm_iadd (x_dk dn_362_0_0_ok 10 rfl)))
  (e_Lok (sm_iaload (x_dk dn_362_0_0_ok 11 rfl)))))
  (e_Tok2
  (e_Tok2
  (e_Lok (ps_iconst_1 (x_dk dn_362_0_0_ok 12 rfl)))
  (e_Lok (sm_isub (x_dk dn_362_0_0_ok 13 rfl))))
  (e_Tok2
  (e_Lok (sm_imul (x_dk dn_362_0_0_ok 14 rfl)))
  (e_Tok2
  (e_Lok (sm_iadd (x_dk dn_362_0_0_ok 15 rfl)))
  (e_Lok (e_rt (I := eI) (k := 1) ⟨(x_dk dn_362_0_0_ok 16 rfl), rfl⟩)))))))
def te_362 : Nat → eE := te_362_0
theorem te_362_ok : ∀ pc, e_EOq eft cls elay eI n_362 pc (te_362 pc) := te_362_0_ok
theorem ho_363 : (xm_y n_363).cls = "RobotCellHouseModel" := rfl
def dn_363_0_0 : List (Nat × Instr × Nat) := [(0, .aload_n 0, 1), (1, .getfield 222, 3), (4, .aload_n 0, 1), (5, .getfield 654, 3), (8, .iload_n 1, 1), (9, .iastore, 1), (10, .aload_n 0, 1), (11, .dup, 1), (12, .getfield 654, 3), (15, .iconst 1, 1), (16, .iadd, 1), (17, .putfield 654, 3), (20, .return_, 1)]
set_option maxRecDepth 20000 in
theorem dn_363_0_0_ok : dn_363_0_0.all (fun q => decide (decode (xm_b n_363) q.1 = .ok (q.2.1, q.2.2))) = true := xa_g_ok (by decide +kernel)
def te_363_0 : Nat → eE := (e_T 9 (e_T 4 (e_T 0 (e_L 0 (0, ei_load 0 2 1, 0, 0)) (e_T 1 (e_L 1 (0, ei_getf eft elay 12 101 4, 0, 0)) (e_L 4 (0, ei_load 0 2 5, 0, 0)))) (e_T 5 (e_L 5 (0, ei_getf eft elay 12 102 8, 0, 0)) (e_T 8 (e_L 8 (0, ei_load 1 0 9, 0, 0)) (e_L 9 (0, ei_ast elay false 10, 0, 0))))) (e_T 12 (e_T 10 (e_L 10 (0, ei_load 0 2 11, 0, 0)) (e_T 11 (e_L 11 (0, ei_stk ef_dup 12, 0, 0)) (e_L 12 (0, ei_getf eft elay 12 102 15, 0, 0)))) (e_T 16 (e_T 15 (e_L 15 (0, ei_push (0, 1) 16, 0, 0)) (e_L 16 (0, ei_bin eF_add 17, 0, 0))) (e_T 17 (e_L 17 (0, ei_putf eft elay 12 102 0 20, 0, 0)) (e_L 20 (1, e_nof, 0, 0))))))
set_option maxRecDepth 20000 in
set_option maxHeartbeats 4000000 in
theorem te_363_0_ok : ∀ pc, e_EOq eft cls elay eI n_363 pc (te_363_0 pc) :=
  (e_Tok2
  (e_Tok2
  (e_Tok2
  (e_Lok (ld_aload_n_0 (x_dk dn_363_0_0_ok 0 rfl)))
  (e_Tok2
  (e_Lok (lk_12_222g ho_363 (x_dk dn_363_0_0_ok 1 rfl)))
  (e_Lok (ld_aload_n_0 (x_dk dn_363_0_0_ok 2 rfl)))))
  (e_Tok2
  (e_Lok (lk_12_654g ho_363 (x_dk dn_363_0_0_ok 3 rfl)))
  (e_Tok2
  (e_Lok (ld_iload_n_1 (x_dk dn_363_0_0_ok 4 rfl)))
  (e_Lok (sm_iastore (x_dk dn_363_0_0_ok 5 rfl))))))
  (e_Tok2
  (e_Tok2
  (e_Lok (ld_aload_n_0 (x_dk dn_363_0_0_ok 6 rfl)))
  (e_Tok2
  (e_Lok (e_st (I := eI) (er_dup (x_dk dn_363_0_0_ok 7 rfl)) (nx_stk bf_dup)))
  (e_Lok (lk_12_654g ho_363 (x_dk dn_363_0_0_ok 8 rfl)))))
  (e_Tok2
  (e_Tok2
  (e_Lok (ps_iconst_1 (x_dk dn_363_0_0_ok 9 rfl)))
  (e_Lok (sm_iadd (x_dk dn_363_0_0_ok 10 rfl))))
  (e_Tok2
  (e_Lok (lk_12_654p ho_363 (x_dk dn_363_0_0_ok 11 rfl)))
  (e_Lok (e_rt (I := eI) (k := 0) ⟨(x_dk dn_363_0_0_ok 12 rfl), rfl⟩))))))
def te_363 : Nat → eE := te_363_0
theorem te_363_ok : ∀ pc, e_EOq eft cls elay eI n_363 pc (te_363 pc) := te_363_0_ok
theorem ho_364 : (xm_y n_364).cls = "RobotCellHouseModel" := rfl
def dn_364_0_0 : List (Nat × Instr × Nat) := [(0, .aload_n 0, 1), (1, .dup, 1), (2, .getfield 654, 3), (5, .iconst 1, 1), (6, .isub, 1), (7, .putfield 654, 3), (10, .aload_n 0, 1), (11, .getfield 222, 3), (14, .aload_n 0, 1), (15, .getfield 654, 3), (18, .iaload, 1), (19, .ireturn, 1)]
set_option maxRecDepth 20000 in
theorem dn_364_0_0_ok : dn_364_0_0.all (fun q => decide (decode (xm_b n_364) q.1 = .ok (q.2.1, q.2.2))) = true := xa_g_ok (by decide +kernel)
def te_364_0 : Nat → eE := (e_T 7 (e_T 2 (e_T 0 (e_L 0 (0, ei_load 0 2 1, 0, 0)) (e_T 1 (e_L 1 (0, ei_stk ef_dup 2, 0, 0)) (e_L 2 (0, ei_getf eft elay 12 102 5, 0, 0)))) (e_T 5 (e_L 5 (0, ei_push (0, 1) 6, 0, 0)) (e_T 6 (e_L 6 (0, ei_bin eF_sub 7, 0, 0)) (e_L 7 (0, ei_putf eft elay 12 102 0 10, 0, 0))))) (e_T 14 (e_T 10 (e_L 10 (0, ei_load 0 2 11, 0, 0)) (e_T 11 (e_L 11 (0, ei_getf eft elay 12 101 14, 0, 0)) (e_L 14 (0, ei_load 0 2 15, 0, 0)))) (e_T 15 (e_L 15 (0, ei_getf eft elay 12 102 18, 0, 0)) (e_T 18 (e_L 18 (0, ei_ald elay false 19, 0, 0)) (e_L 19 (1, e_nof, 1, 0))))))
set_option maxRecDepth 20000 in
set_option maxHeartbeats 4000000 in
theorem te_364_0_ok : ∀ pc, e_EOq eft cls elay eI n_364 pc (te_364_0 pc) :=
  (e_Tok2
  (e_Tok2
  (e_Tok2
  (e_Lok (ld_aload_n_0 (x_dk dn_364_0_0_ok 0 rfl)))
  (e_Tok2
  (e_Lok (e_st (I := eI) (er_dup (x_dk dn_364_0_0_ok 1 rfl)) (nx_stk bf_dup)))
  (e_Lok (lk_12_654g ho_364 (x_dk dn_364_0_0_ok 2 rfl)))))
  (e_Tok2
  (e_Lok (ps_iconst_1 (x_dk dn_364_0_0_ok 3 rfl)))
  (e_Tok2
  (e_Lok (sm_isub (x_dk dn_364_0_0_ok 4 rfl)))
  (e_Lok (lk_12_654p ho_364 (x_dk dn_364_0_0_ok 5 rfl))))))
  (e_Tok2
  (e_Tok2
  (e_Lok (ld_aload_n_0 (x_dk dn_364_0_0_ok 6 rfl)))
  (e_Tok2
  (e_Lok (lk_12_222g ho_364 (x_dk dn_364_0_0_ok 7 rfl)))
  (e_Lok (ld_aload_n_0 (x_dk dn_364_0_0_ok 8 rfl)))))
  (e_Tok2
  (e_Lok (lk_12_654g ho_364 (x_dk dn_364_0_0_ok 9 rfl)))
  (e_Tok2
  (e_Lok (sm_iaload (x_dk dn_364_0_0_ok 10 rfl)))
  (e_Lok (e_rt (I := eI) (k := 1) ⟨(x_dk dn_364_0_0_ok 11 rfl), rfl⟩))))))
def te_364 : Nat → eE := te_364_0
theorem te_364_ok : ∀ pc, e_EOq eft cls elay eI n_364 pc (te_364 pc) := te_364_0_ok
end
