noncomputable section
theorem ho_373 : (xm_y n_373).cls = "RobotCellHouseModel" := rfl
def dn_373_0_0 : List (Nat × Instr × Nat) := [(0, .aload_n 0, 1), (1, .getfield 8, 3), (4, .aload_n 0, 1), (5, .invokevirtual 657, 3), (8, .iaload, 1), (9, .istore_n 1, 1), (10, .aload_n 0, 1), (11, .getfield 171, 3), (14, .sipush 10000, 3), (17, .aload_n 0, 1), (18, .getfield 663, 3), (21, .imul, 1), (22, .iload_n 1, 1), (23, .iadd, 1), (24, .iaload, 1), (25, .istore_n 2, 1), (26, .aload_n 0, 1), (27, .getfield 174, 3), (30, .sipush 10000, 3), (33, .aload_n 0, 1), (34, .getfield 663, 3), (37, .imul, 1), (38, .iload_n 1, 1), (39, .iadd, 1), (40, .iaload, 1)]
set_option maxRecDepth 20000 in
theorem dn_373_0_0_ok : dn_373_0_0.all (fun q => decide (decode (xm_b n_373) q.1 = .ok (q.2.1, q.2.2))) = true := xa_g_ok (by decide +kernel)
def dn_373_0_1 : List (Nat × Instr × Nat) := [(41, .istore_n 3, 1), (42, .iload_n 2, 1), (43, .bipush 30, 2), (45, .if_icmp .ne 10, 3), (48, .aload_n 0, 1), (49, .invokevirtual 702, 3), (52, .goto 26, 3), (55, .iload_n 2, 1), (56, .bipush 30, 2), (58, .if_icmp .ge 13, 3), (61, .aload_n 0, 1), (62, .iload_n 2, 1), (63, .iload_n 3, 1), (64, .iload_n 1, 1), (65, .invokevirtual 705, 3), (68, .goto 10, 3), (71, .aload_n 0, 1), (72, .iload_n 2, 1), (73, .iload_n 3, 1), (74, .iload_n 1, 1), (75, .invokevirtual 708, 3), (78, .return_, 1)]
set_option maxRecDepth 20000 in
theorem dn_373_0_1_ok : dn_373_0_1.all (fun q => decide (decode (xm_b n_373) q.1 = .ok (q.2.1, q.2.2))) = true := xa_g_ok (by decide +kernel)
def te_373_0 : Nat → eE := (e_T 18 (e_T 8 (e_T 1 (e_T 0 (e_L 0 (0, ei_load 0 2 1, 0, 0)) (e_L 1 (0, ei_getf eft elay 12 0 4, 0, 0))) (e_T 4 (e_L 4 (0, ei_load 0 2 5, 0, 0)) (e_T 5 (e_L 5 (2, e_nof, 362, 1)) (e_L 8 (0, ei_ald elay false 9, 0, 0))))) (e_T 11 (e_T 9 (e_L 9 (0, ei_stor 1 0 10, 0, 0)) (e_T 10 (e_L 10 (0, ei_load 0 2 11, 0, 0)) (e_L 11 (0, ei_getf eft elay 12 65 14, 0, 0)))) (e_T 14 (e_L 14 (0, ei_push (0, 10000) 17, 0, 0)) (e_T 17 (e_L 17 (0, ei_load 0 2 18, 0, 0)) (e_L 18 (0, ei_getf eft elay 12 98 21, 0, 0)))))) (e_T 26 (e_T 23 (e_T 21 (e_L 21 (0, ei_bin eF_mul 22, 0, 0)) (e_T 22 (e_L 22 (0, ei_load 1 0 23, 0, 0)) (e_L 23 (0, ei_bin eF_add 24, 0, 0)))) (e_T 24 (e_L 24 (0, ei_ald elay false 25, 0, 0)) (e_T 25 (e_L 25 (0, ei_stor 2 0 26, 0, 0)) (e_L 26 (0, ei_load 0 2 27, 0, 0))))) (e_T 33 (e_T 27 (e_L 27 (0, ei_getf eft elay 12 66 30, 0, 0)) (e_T 30 (e_L 30 (0, ei_push (0, 10000) 33, 0, 0)) (e_L 33 (0, ei_load 0 2 34, 0, 0)))) (e_T 34 (e_L 34 (0, ei_getf eft elay 12 98 37, 0, 0)) (e_T 37 (e_L 37 (0, ei_bin eF_mul 38, 0, 0)) (e_L 38 (0, ei_load 1 0 39, 0, 0)))))))
set_option maxRecDepth 20000 in
set_option maxHeartbeats 4000000 in
theorem te_373_0_ok : ∀ pc, e_EOq eft cls elay eI n_373 pc (te_373_0 pc) :=
  (e_Tok2
  (e_Tok2
  (e_Tok2
  (e_Tok2
  (e_Lok (ld_aload_n_0 (x_dk dn_373_0_0_ok 0 rfl)))
  (e_Lok (lk_12_8g ho_373 (x_dk dn_373_0_0_ok 1 rfl))))
  (e_Tok2
  (e_Lok (ld_aload_n_0 (x_dk dn_373_0_0_ok 2 rfl)))
  (e_Tok2
  (e_Lok (lk_12_657 ho_373 (x_dk dn_373_0_0_ok 3 rfl)))
  (e_Lok (sm_iaload (x_dk dn_373_0_0_ok 4 rfl))))))
  (e_Tok2
  (e_Tok2
  (e_Lok (e_st (I := eI) (er_istore_n (i := 1) (x_dk dn_373_0_0_ok 5 rfl) (by decide +kernel)) nx_stor))
  (e_Tok2
  (e_Lok (ld_aload_n_0 (x_dk dn_373_0_0_ok 6 rfl)))
  (e_Lok (lk_12_171g ho_373 (x_dk dn_373_0_0_ok 7 rfl)))))
  (e_Tok2
  (e_Lok (ps_sipush_10000 (x_dk dn_373_0_0_ok 8 rfl)))
  (e_Tok2
  (e_Lok (ld_aload_n_0 (x_dk dn_373_0_0_ok 9 rfl)))
  (e_Lok (lk_12_663g ho_373 (x_dk dn_373_0_0_ok 10 rfl)))))))
  (e_Tok2
  (e_Tok2
  (e_Tok2
  (e_Lok (sm_imul (x_dk dn_373_0_0_ok 11 rfl)))
  (e_Tok2
  (e_Lok (ld_iload_n_1 (x_dk dn_373_0_0_ok 12 rfl)))
  (e_Lok (sm_iadd (x_dk dn_373_0_0_ok 13 rfl)))))
  (e_Tok2
  (e_Lok (sm_iaload (x_dk dn_373_0_0_ok 14 rfl)))
  (e_Tok2
  (e_Lok (e_st (I := eI) (er_istore_n (i := 2) (x_dk dn_373_0_0_ok 15 rfl) (by decide +kernel)) nx_stor))
  (e_Lok (ld_aload_n_0 (x_dk dn_373_0_0_ok 16 rfl))))))
  (e_Tok2
  (e_Tok2
  (e_Lok (lk_12_174g ho_373 (x_dk dn_373_0_0_ok 17 rfl)))
  (e_Tok2
  (e_Lok (ps_sipush_10000 (x_dk dn_373_0_0_ok 18 rfl)))
  (e_Lok (ld_aload_n_0 (x_dk dn_373_0_0_ok 19 rfl)))))
  (e_Tok2
  (e_Lok (lk_12_663g ho_373 (x_dk dn_373_0_0_ok 20 rfl)))
  (e_Tok2
  (e_Lok (sm_imul (x_dk dn_373_0_0_ok 21 rfl)))
  (e_Lok (ld_iload_n_1 (x_dk dn_373_0_0_ok 22 rfl))))))))
def te_373_23 : Nat → eE := (e_T 58 (e_T 45 (e_T 41 (e_T 39 (e_L 39 (0, ei_bin eF_add 40, 0, 0)) (e_T 40 (e_L 40 (0, ei_ald elay false 41, 0, 0)) (e_L 41 (0, ei_stor 3 0 42, 0, 0)))) (e_T 42 (e_L 42 (0, ei_load 2 0 43, 0, 0)) (e_T 43 (e_L 43 (0, ei_push (0, 30) 45, 0, 0)) (e_L 45 (0, ei_if2 1 55 48, 0, 0))))) (e_T 52 (e_T 48 (e_L 48 (0, ei_load 0 2 49, 0, 0)) (e_T 49 (e_L 49 (2, e_nof, 368, 1)) (e_L 52 (0, ei_goto 78, 0, 0)))) (e_T 55 (e_L 55 (0, ei_load 2 0 56, 0, 0)) (e_T 56 (e_L 56 (0, ei_push (0, 30) 58, 0, 0)) (e_L 58 (0, ei_if2 3 71 61, 0, 0)))))) (e_T 68 (e_T 63 (e_T 61 (e_L 61 (0, ei_load 0 2 62, 0, 0)) (e_T 62 (e_L 62 (0, ei_load 2 0 63, 0, 0)) (e_L 63 (0, ei_load 3 0 64, 0, 0)))) (e_T 64 (e_L 64 (0, ei_load 1 0 65, 0, 0)) (e_T 65 (e_L 65 (2, e_nof, 374, 4)) (e_L 68 (0, ei_goto 78, 0, 0))))) (e_T 73 (e_T 71 (e_L 71 (0, ei_load 0 2 72, 0, 0)) (e_T 72 (e_L 72 (0, ei_load 2 0 73, 0, 0)) (e_L 73 (0, ei_load 3 0 74, 0, 0)))) (e_T 74 (e_L 74 (0, ei_load 1 0 75, 0, 0)) (e_T 75 (e_L 75 (2, e_nof, 376, 4)) (e_L 78 (1, e_nof, 0, 0)))))))
set_option maxRecDepth 20000 in
set_option maxHeartbeats 4000000 in
theorem te_373_23_ok : ∀ pc, e_EOq eft cls elay eI n_373 pc (te_373_23 pc) :=
  (e_Tok2
  (e_Tok2
  (e_Tok2
  (e_Tok2
  (e_Lok (sm_iadd (x_dk dn_373_0_0_ok 23 rfl)))
  (e_Tok2
  (e_Lok (sm_iaload (x_dk dn_373_0_0_ok 24 rfl)))
  (e_Lok (e_st (I := eI) (er_istore_n (i := 3) (x_dk dn_373_0_1_ok 0 rfl) (by decide +kernel)) nx_stor))))
  (e_Tok2
  (e_Lok (ld_iload_n_2 (x_dk dn_373_0_1_ok 1 rfl)))
  (e_Tok2
  (e_Lok (ps_bipush_30 (x_dk dn_373_0_1_ok 2 rfl)))
  (e_Lok (e_st (I := eI) (er_icmpne (off := 10) (tg := 55) (x_dk dn_373_0_1_ok 3 rfl) (by decide)) nx_if2)))))
  (e_Tok2
  (e_Tok2
  (e_Lok (ld_aload_n_0 (x_dk dn_373_0_1_ok 4 rfl)))
  (e_Tok2
  (e_Lok (lk_12_702 ho_373 (x_dk dn_373_0_1_ok 5 rfl)))
  (e_Lok (e_st (I := eI) (er_goto (off := 26) (tg := 78) (x_dk dn_373_0_1_ok 6 rfl) (by decide)) nx_goto))))
  (e_Tok2
  (e_Lok (ld_iload_n_2 (x_dk dn_373_0_1_ok 7 rfl)))
  (e_Tok2
  (e_Lok (ps_bipush_30 (x_dk dn_373_0_1_ok 8 rfl)))
  (e_Lok (e_st (I := eI) (er_icmpge (off := 13) (tg := 71) (x_dk dn_373_0_1_ok 9 rfl) (by decide)) nx_if2))))))
  (e_Tok2
  (e_Tok2
  (e_Tok2
  (e_Lok (ld_aload_n_0 (x_dk dn_373_0_1_ok 10 rfl)))
  (e_Tok2
  (e_Lok (ld_iload_n_2 (x_dk dn_373_0_1_ok 11 rfl)))
  (e_Lok (ld_iload_n_3 (x_dk dn_373_0_1_ok 12 rfl)))))
  (e_Tok2
  (e_Lok (ld_iload_n_1 (x_dk dn_373_0_1_ok 13 rfl)))
  (e_Tok2
  (e_Lok (lk_12_705 ho_373 (x_dk dn_373_0_1_ok 14 rfl)))
  (e_Lok (e_st (I := eI) (er_goto (off := 10) (tg := 78) (x_dk dn_373_0_1_ok 15 rfl) (by decide)) nx_goto)))))
  (e_Tok2
  (e_Tok2
  (e_Lok (ld_aload_n_0 (x_dk dn_373_0_1_ok 16 rfl)))
  (e_Tok2
  (e_Lok (ld_iload_n_2 (x_dk dn_373_0_1_ok 17 rfl)))
  (e_Lok (ld_iload_n_3 (x_dk dn_373_0_1_ok 18 rfl)))))
  (e_Tok2
  (e_Lok (ld_iload_n_1 (x_dk dn_373_0_1_ok 19 rfl)))
  (e_Tok2
  (e_Lok (lk_12_708 ho_373 (x_dk dn_373_0_1_ok 20 rfl)))
  (e_Lok (e_rt (I := eI) (k := 0) ⟨(x_dk dn_373_0_1_ok 21 rfl), rfl⟩)))))))
def te_373 : Nat → eE := (e_T 38 te_373_0 te_373_23)
theorem te_373_ok : ∀ pc, e_EOq eft cls elay eI n_373 pc (te_373 pc) := (e_Tok2 (te_373_0_ok) (te_373_23_ok))
theorem ho_374 : (xm_y n_374).cls = "RobotCellHouseModel" := rfl
def dn_374_0_0 : List (Nat × Instr × Nat) := [(0, .iload_n 3, 1), (1, .iconst 1, 1), (2, .iadd, 1), (3, .istore 4, 2), (5, .iload_n 1, 1), (6, .tableswitch 404 1 24 #[110, 118, 143, 181, 231, 244, 262, 275, 304, 404, 404, 404, 404, 404, 404, 404, 404, 404, 404, 404, 316, 354, 354, 335], 110), (116, .aload_n 0, 1), (117, .iload_n 2, 1), (118, .invokevirtual 711, 3), (121, .goto 336, 3), (124, .aload_n 0, 1), (125, .aload_n 0, 1), (126, .getfield 8, 3), (129, .sipush 20932, 3), (132, .bipush 32, 2), (134, .aload_n 0, 1), (135, .getfield 663, 3), (138, .imul, 1), (139, .iadd, 1), (140, .iload_n 2, 1), (141, .iadd, 1), (142, .iaload, 1), (143, .invokevirtual 711, 3), (146, .goto 311, 3), (149, .aload_n 0, 1)]
set_option maxRecDepth 20000 in
theorem dn_374_0_0_ok : dn_374_0_0.all (fun q => decide (decode (xm_b n_374) q.1 = .ok (q.2.1, q.2.2))) = true := xa_g_ok (by decide +kernel)
def dn_374_0_1 : List (Nat × Instr × Nat) := [(150, .invokevirtual 714, 3), (153, .istore 5, 2), (155, .iload 5, 2), (157, .i2l, 1), (158, .lconst 0, 1), (159, .ldc2_w 352, 3), (162, .invokestatic 301, 3), (165, .ifCond .ne 9, 3), (168, .aload_n 0, 1), (169, .iconst 2, 1), (170, .invokevirtual 672, 3), (173, .return_, 1), (174, .aload_n 0, 1), (175, .aload_n 0, 1), (176, .iload 5, 2), (178, .invokevirtual 464, 3), (181, .invokevirtual 711, 3), (184, .goto 273, 3), (187, .aload_n 0, 1), (188, .invokevirtual 714, 3), (191, .istore 6, 2), (193, .aload_n 0, 1), (194, .aload_n 0, 1), (195, .getfield 663, 3), (198, .iload 6, 2)]
set_option maxRecDepth 20000 in
theorem dn_374_0_1_ok : dn_374_0_1.all (fun q => decide (decode (xm_b n_374) q.1 = .ok (q.2.1, q.2.2))) = true := xa_g_ok (by decide +kernel)
def dn_374_0_2 : List (Nat × Instr × Nat) := [(200, .invokevirtual 333, 3), (203, .ifCond .ne 9, 3), (206, .aload_n 0, 1), (207, .iconst 2, 1), (208, .invokevirtual 672, 3), (211, .return_, 1), (212, .aload_n 0, 1), (213, .aload_n 0, 1), (214, .getfield 8, 3), (217, .aload_n 0, 1), (218, .getfield 663, 3), (221, .invokestatic 294, 3), (224, .bipush 16, 2), (226, .iadd, 1), (227, .iload 6, 2), (229, .iadd, 1), (230, .iaload, 1), (231, .invokevirtual 711, 3), (234, .goto 223, 3), (237, .aload_n 0, 1), (238, .aload_n 0, 1), (239, .getfield 8, 3), (242, .iconst 0, 1), (243, .iaload, 1), (244, .invokevirtual 711, 3)]
set_option maxRecDepth 20000 in
theorem dn_374_0_2_ok : dn_374_0_2.all (fun q => decide (decode (xm_b n_374) q.1 = .ok (q.2.1, q.2.2))) = true := xa_g_ok (by decide +kernel)
def dn_374_0_3 : List (Nat × Instr × Nat) := [(247, .goto 210, 3), (250, .aload_n 0, 1), (251, .aload_n 0, 1), (252, .getfield 8, 3), (255, .aload_n 0, 1), (256, .getfield 651, 3), (259, .iconst 3, 1), (260, .iadd, 1), (261, .iaload, 1), (262, .invokevirtual 711, 3), (265, .goto 192, 3), (268, .aload_n 0, 1), (269, .aload_n 0, 1), (270, .getfield 8, 3), (273, .iconst 1, 1), (274, .iaload, 1), (275, .invokevirtual 711, 3), (278, .goto 179, 3), (281, .aload_n 0, 1), (282, .aload_n 0, 1), (283, .getfield 8, 3), (286, .aload_n 0, 1), (287, .getfield 663, 3), (290, .invokestatic 294, 3), (293, .iconst 1, 1)]
set_option maxRecDepth 20000 in
theorem dn_374_0_3_ok : dn_374_0_3.all (fun q => decide (decode (xm_b n_374) q.1 = .ok (q.2.1, q.2.2))) = true := xa_g_ok (by decide +kernel)
def dn_374_1_0 : List (Nat × Instr × Nat) := [(294, .iadd, 1), (295, .iaload, 1), (296, .ifCond .lt 7, 3), (299, .iconst 1, 1), (300, .goto 4, 3), (303, .iconst 0, 1), (304, .invokevirtual 711, 3), (307, .goto 150, 3), (310, .aload_n 0, 1), (311, .aload_n 0, 1), (312, .invokevirtual 714, 3), (315, .ineg, 1), (316, .invokevirtual 711, 3), (319, .goto 138, 3), (322, .aload_n 0, 1), (323, .aload_n 0, 1), (324, .invokevirtual 714, 3), (327, .ifCond .ne 7, 3), (330, .iconst 1, 1), (331, .goto 4, 3), (334, .iconst 0, 1), (335, .invokevirtual 711, 3), (338, .goto 119, 3), (341, .aload_n 0, 1), (342, .aload_n 0, 1)]
set_option maxRecDepth 20000 in
theorem dn_374_1_0_ok : dn_374_1_0.all (fun q => decide (decode (xm_b n_374) q.1 = .ok (q.2.1, q.2.2))) = true := xa_g_ok (by decide +kernel)
def dn_374_1_1 : List (Nat × Instr × Nat) := [(343, .invokevirtual 714, 3), (346, .ifCond .ne 7, 3), (349, .iconst 0, 1), (350, .goto 4, 3), (353, .iconst 1, 1), (354, .invokevirtual 711, 3), (357, .goto 100, 3), (360, .aload_n 0, 1), (361, .invokevirtual 714, 3), (364, .ifCond .eq 7, 3), (367, .iconst 1, 1), (368, .goto 4, 3), (371, .iconst 0, 1), (372, .istore 7, 2), (374, .iload 7, 2), (376, .iload_n 1, 1), (377, .bipush 22, 2), (379, .if_icmp .ne 7, 3), (382, .iconst 1, 1), (383, .goto 4, 3), (386, .iconst 0, 1), (387, .if_icmp .ne 70, 3), (390, .aload_n 0, 1), (391, .iload 7, 2), (393, .ifCond .eq 7, 3)]
set_option maxRecDepth 20000 in
theorem dn_374_1_1_ok : dn_374_1_1.all (fun q => decide (decode (xm_b n_374) q.1 = .ok (q.2.1, q.2.2))) = true := xa_g_ok (by decide +kernel)
def dn_374_1_2 : List (Nat × Instr × Nat) := [(396, .iconst 1, 1), (397, .goto 4, 3), (400, .iconst 0, 1), (401, .invokevirtual 711, 3), (404, .iload_n 2, 1), (405, .istore 4, 2), (407, .goto 50, 3), (410, .aload_n 0, 1), (411, .invokevirtual 714, 3), (414, .istore 8, 2), (416, .aload_n 0, 1), (417, .invokevirtual 714, 3), (420, .istore 9, 2), (422, .iload 8, 2), (424, .ifCond .ne 21, 3), (427, .iload_n 1, 1), (428, .bipush 13, 2), (430, .if_icmp .eq 9, 3), (433, .iload_n 1, 1), (434, .bipush 14, 2), (436, .if_icmp .ne 9, 3), (439, .aload_n 0, 1), (440, .iconst 1, 1), (441, .invokevirtual 672, 3), (444, .return_, 1)]
set_option maxRecDepth 20000 in
theorem dn_374_1_2_ok : dn_374_1_2.all (fun q => decide (decode (xm_b n_374) q.1 = .ok (q.2.1, q.2.2))) = true := xa_g_ok (by decide +kernel)
def dn_374_1_3 : List (Nat × Instr × Nat) := [(445, .aload_n 0, 1), (446, .iload_n 1, 1), (447, .iload 9, 2), (449, .iload 8, 2), (451, .invokestatic 717, 3), (454, .invokevirtual 711, 3), (457, .aload_n 0, 1), (458, .iload 4, 2), (460, .invokevirtual 678, 3), (463, .return_, 1)]
set_option maxRecDepth 20000 in
theorem dn_374_1_3_ok : dn_374_1_3.all (fun q => decide (decode (xm_b n_374) q.1 = .ok (q.2.1, q.2.2))) = true := xa_g_ok (by decide +kernel)
def te_374_0 : Nat → eE := (e_T 124 (e_T 5 (e_T 1 (e_T 0 (e_L 0 (0, ei_load 3 0 1, 0, 0)) (e_L 1 (0, ei_push (0, 1) 2, 0, 0))) (e_T 2 (e_L 2 (0, ei_bin eF_add 3, 0, 0)) (e_T 3 (e_L 3 (0, ei_stor 4 0 5, 0, 0)) (e_L 5 (0, ei_load 1 0 6, 0, 0))))) (e_T 117 (e_T 6 (e_L 6 (0, ei_sw [((-2147483648), 0, 410), (1, 1, 116), (2, 2, 124), (3, 3, 149), (4, 4, 187), (5, 5, 237), (6, 6, 250), (7, 7, 268), (8, 8, 281), (9, 9, 310), (10, 10, 410), (11, 11, 410), (12, 12, 410), (13, 13, 410), (14, 14, 410), (15, 15, 410), (16, 16, 410), (17, 17, 410), (18, 18, 410), (19, 19, 410), (20, 20, 410), (21, 21, 322), (22, 22, 360), (23, 23, 360), (24, 24, 341), (25, 2147483647, 410)], 0, 0)) (e_T 116 (e_L 116 (0, ei_load 0 2 117, 0, 0)) (e_L 117 (0, ei_load 2 0 118, 0, 0)))) (e_T 118 (e_L 118 (2, e_nof, 363, 2)) (e_T 121 (e_L 121 (0, ei_goto 457, 0, 0)) (e_L 124 (0, ei_load 0 2 125, 0, 0)))))) (e_T 135 (e_T 129 (e_T 125 (e_L 125 (0, ei_load 0 2 126, 0, 0)) (e_T 126 (e_L 126 (0, ei_getf eft elay 12 0 129, 0, 0)) (e_L 129 (0, ei_push (0, 20932) 132, 0, 0)))) (e_T 132 (e_L 132 (0, ei_push (0, 32) 134, 0, 0)) (e_T 134 (e_L 134 (0, ei_load 0 2 135, 0, 0)) (e_L 135 (0, ei_getf eft elay 12 98 138, 0, 0))))) (e_T 140 (e_T 138 (e_L 138 (0, ei_bin eF_mul 139, 0, 0)) (e_T 139 (e_L 139 (0, ei_bin eF_add 140, 0, 0)) (e_L 140 (0, ei_load 2 0 141, 0, 0)))) (e_T 141 (e_L 141 (0, ei_bin eF_add 142, 0, 0)) (e_T 142 (e_L 142 (0, ei_ald elay false 143, 0, 0)) (e_L 143 (2, e_nof, 363, 2)))))))
set_option maxRecDepth 20000 in
set_option maxHeartbeats 4000000 in
theorem te_374_0_ok : ∀ pc, e_EOq eft cls elay eI n_374 pc (te_374_0 pc) :=
  (e_Tok2
  (e_Tok2
  (e_Tok2
  (e_Tok2
  (e_Lok (ld_iload_n_3 (x_dk dn_374_0_0_ok 0 rfl)))
  (e_Lok (ps_iconst_1 (x_dk dn_374_0_0_ok 1 rfl))))
  (e_Tok2
  (e_Lok (sm_iadd (x_dk dn_374_0_0_ok 2 rfl)))
  (e_Tok2
  (e_Lok (e_st (I := eI) (er_istore (i := 4) (x_dk dn_374_0_0_ok 3 rfl) (by decide +kernel)) nx_stor))
  (e_Lok (ld_iload_n_1 (x_dk dn_374_0_0_ok 4 rfl))))))
  (e_Tok2
  (e_Tok2
  (e_Lok (e_st (I := eI) (er_tsw (dflt := 404) (lo := 1) (hi := 24) (offs := #[110, 118, 143, 181, 231, 244, 262, 275, 304, 404, 404, 404, 404, 404, 404, 404, 404, 404, 404, 404, 316, 354, 354, 335]) (len := 110) (n := 24) (x_dk dn_374_0_0_ok 5 rfl) (by decide) (by decide +kernel)) nx_sw))
  (e_Tok2
  (e_Lok (ld_aload_n_0 (x_dk dn_374_0_0_ok 6 rfl)))
  (e_Lok (ld_iload_n_2 (x_dk dn_374_0_0_ok 7 rfl)))))
  (e_Tok2
  (e_Lok (lk_12_711 ho_374 (x_dk dn_374_0_0_ok 8 rfl)))
  (e_Tok2
  (e_Lok (e_st (I := eI) (er_goto (off := 336) (tg := 457) (x_dk dn_374_0_0_ok 9 rfl) (by decide)) nx_goto))
  (e_Lok (ld_aload_n_0 (x_dk dn_374_0_0_ok 10 rfl)))))))
  (e_Tok2
  (e_Tok2
  (e_Tok2
  (e_Lok (ld_aload_n_0 (x_dk dn_374_0_0_ok 11 rfl)))
  (e_Tok2
  (e_Lok (lk_12_8g ho_374 (x_dk dn_374_0_0_ok 12 rfl)))
  (e_Lok (ps_sipush_20932 (x_dk dn_374_0_0_ok 13 rfl)))))
  (e_Tok2
  (e_Lok (ps_bipush_32 (x_dk dn_374_0_0_ok 14 rfl)))
  (e_Tok2
  (e_Lok (ld_aload_n_0 (x_dk dn_374_0_0_ok 15 rfl)))
  (e_Lok (lk_12_663g ho_374 (x_dk dn_374_0_0_ok 16 rfl))))))
  (e_Tok2
  (e_Tok2
  (e_Lok (sm_imul (x_dk dn_374_0_0_ok 17 rfl)))
  (e_Tok2
  (e_Lok (sm_iadd (x_dk dn_374_0_0_ok 18 rfl)))
  (e_Lok (ld_iload_n_2 (x_dk dn_374_0_0_ok 19 rfl)))))
  (e_Tok2
  (e_Lok (sm_iadd (x_dk dn_374_0_0_ok 20 rfl)))
  (e_Tok2
  (e_Lok (sm_iaload (x_dk dn_374_0_0_ok 21 rfl)))
  (e_Lok (lk_12_711 ho_374 (x_dk dn_374_0_0_ok 22 rfl))))))))
def te_374_23 : Nat → eE := (e_T 168 (e_T 155 (e_T 149 (e_T 146 (e_L 146 (0, ei_goto 457, 0, 0)) (e_L 149 (0, ei_load 0 2 150, 0, 0))) (e_T 150 (e_L 150 (2, e_nof, 364, 1)) (e_T 153 (e_L 153 (0, ei_stor 5 0 155, 0, 0)) (e_L 155 (0, ei_load 5 0 157, 0, 0))))) (e_T 159 (e_T 157 (e_L 157 (0, ei_un (fun x => (4, x)) 158, 0, 0)) (e_T 158 (e_L 158 (0, ei_push (4, 0) 159, 0, 0)) (e_L 159 (0, ei_push (4, 63) 162, 0, 0)))) (e_T 162 (e_L 162 (2, e_nof, 266, 3)) (e_T 165 (e_L 165 (0, ei_if1 1 174 168, 0, 0)) (e_L 168 (0, ei_load 0 2 169, 0, 0)))))) (e_T 176 (e_T 173 (e_T 169 (e_L 169 (0, ei_push (0, 2) 170, 0, 0)) (e_T 170 (e_L 170 (2, e_nof, 369, 2)) (e_L 173 (1, e_nof, 0, 0)))) (e_T 174 (e_L 174 (0, ei_load 0 2 175, 0, 0)) (e_T 175 (e_L 175 (0, ei_load 0 2 176, 0, 0)) (e_L 176 (0, ei_load 5 0 178, 0, 0))))) (e_T 184 (e_T 178 (e_L 178 (2, e_nof, 320, 2)) (e_T 181 (e_L 181 (2, e_nof, 363, 2)) (e_L 184 (0, ei_goto 457, 0, 0)))) (e_T 187 (e_L 187 (0, ei_load 0 2 188, 0, 0)) (e_T 188 (e_L 188 (2, e_nof, 364, 1)) (e_L 191 (0, ei_stor 6 0 193, 0, 0)))))))
set_option maxRecDepth 20000 in
set_option maxHeartbeats 4000000 in
theorem te_374_23_ok : ∀ pc, e_EOq eft cls elay eI n_374 pc (te_374_23 pc) :=
  (e_Tok2
  (e_Tok2
  (e_Tok2
  (e_Tok2
  (e_Lok (e_st (I := eI) (er_goto (off := 311) (tg := 457) (x_dk dn_374_0_0_ok 23 rfl) (by decide)) nx_goto))
  (e_Lok (ld_aload_n_0 (x_dk dn_374_0_0_ok 24 rfl))))
  (e_Tok2
  (e_Lok (lk_12_714 ho_374 (x_dk dn_374_0_1_ok 0 rfl)))
  (e_Tok2
  (e_Lok (e_st (I := eI) (er_istore (i := 5) (x_dk dn_374_0_1_ok 1 rfl) (by decide +kernel)) nx_stor))
  (e_Lok (ld_iload_5 (x_dk dn_374_0_1_ok 2 rfl))))))
  (e_Tok2
  (e_Tok2
  (e_Lok (e_st (I := eI) (er_i2l (x_dk dn_374_0_1_ok 3 rfl)) (nx_un (fun _ => rfl))))
  (e_Tok2
  (e_Lok (ps_lconst_0 (x_dk dn_374_0_1_ok 4 rfl)))
  (e_Lok (e_st (I := eI) (er_ldc2 (ix := 352) (z := 63) (v := 63) (x_dk dn_374_0_1_ok 5 rfl) (in_t11 (List.mem_of_getElem? (i := 81) rfl) rfl) (by decide)) (nx_push (Or.inl rfl))))))
  (e_Tok2
  (e_Lok (lk_12_301 ho_374 (x_dk dn_374_0_1_ok 6 rfl)))
  (e_Tok2
  (e_Lok (e_st (I := eI) (er_ifne (off := 9) (tg := 174) (x_dk dn_374_0_1_ok 7 rfl) (by decide)) nx_if1))
  (e_Lok (ld_aload_n_0 (x_dk dn_374_0_1_ok 8 rfl)))))))
  (e_Tok2
  (e_Tok2
  (e_Tok2
  (e_Lok (ps_iconst_2 (x_dk dn_374_0_1_ok 9 rfl)))
  (e_Tok2
  (e_Lok (lk_12_672 ho_374 (x_dk dn_374_0_1_ok 10 rfl)))
  (e_Lok (e_rt (I := eI) (k := 0) ⟨(x_dk dn_374_0_1_ok 11 rfl), rfl⟩))))
  (e_Tok2
  (e_Lok (ld_aload_n_0 (x_dk dn_374_0_1_ok 12 rfl)))
  (e_Tok2
  (e_Lok (ld_aload_n_0 (x_dk dn_374_0_1_ok 13 rfl)))
  (e_Lok (ld_iload_5 (x_dk dn_374_0_1_ok 14 rfl))))))
  (e_Tok2
  (e_Tok2
  (e_Lok (lk_12_464 ho_374 (x_dk dn_374_0_1_ok 15 rfl)))
  (e_Tok2
  (e_Lok (lk_12_711 ho_374 (x_dk dn_374_0_1_ok 16 rfl)))
  (e_Lok (e_st (I := eI) (er_goto (off := 273) (tg := 457) (x_dk dn_374_0_1_ok 17 rfl) (by decide)) nx_goto))))
  (e_Tok2
  (e_Lok (ld_aload_n_0 (x_dk dn_374_0_1_ok 18 rfl)))
  (e_Tok2
  (e_Lok (lk_12_714 ho_374 (x_dk dn_374_0_1_ok 19 rfl)))
  (e_Lok (e_st (I := eI) (er_istore (i := 6) (x_dk dn_374_0_1_ok 20 rfl) (by decide +kernel)) nx_stor)))))))
def te_374_46 : Nat → eE := (e_T 212 (e_T 200 (e_T 194 (e_T 193 (e_L 193 (0, ei_load 0 2 194, 0, 0)) (e_L 194 (0, ei_load 0 2 195, 0, 0))) (e_T 195 (e_L 195 (0, ei_getf eft elay 12 98 198, 0, 0)) (e_T 198 (e_L 198 (0, ei_load 6 0 200, 0, 0)) (e_L 200 (2, e_nof, 271, 3))))) (e_T 207 (e_T 203 (e_L 203 (0, ei_if1 1 212 206, 0, 0)) (e_T 206 (e_L 206 (0, ei_load 0 2 207, 0, 0)) (e_L 207 (0, ei_push (0, 2) 208, 0, 0)))) (e_T 208 (e_L 208 (2, e_nof, 369, 2)) (e_T 211 (e_L 211 (1, e_nof, 0, 0)) (e_L 212 (0, ei_load 0 2 213, 0, 0)))))) (e_T 224 (e_T 217 (e_T 213 (e_L 213 (0, ei_load 0 2 214, 0, 0)) (e_T 214 (e_L 214 (0, ei_getf eft elay 12 0 217, 0, 0)) (e_L 217 (0, ei_load 0 2 218, 0, 0)))) (e_T 218 (e_L 218 (0, ei_getf eft elay 12 98 221, 0, 0)) (e_T 221 (e_L 221 (2, e_nof, 268, 1)) (e_L 224 (0, ei_push (0, 16) 226, 0, 0))))) (e_T 229 (e_T 226 (e_L 226 (0, ei_bin eF_add 227, 0, 0)) (e_T 227 (e_L 227 (0, ei_load 6 0 229, 0, 0)) (e_L 229 (0, ei_bin eF_add 230, 0, 0)))) (e_T 230 (e_L 230 (0, ei_ald elay false 231, 0, 0)) (e_T 231 (e_L 231 (2, e_nof, 363, 2)) (e_L 234 (0, ei_goto 457, 0, 0)))))))
set_option maxRecDepth 20000 in
set_option maxHeartbeats 4000000 in
theorem te_374_46_ok : ∀ pc, e_EOq eft cls elay eI n_374 pc (te_374_46 pc) :=
  (e_Tok2
  (e_Tok2
  (e_Tok2
  (e_Tok2
  (e_Lok (ld_aload_n_0 (x_dk dn_374_0_1_ok 21 rfl)))
  (e_Lok (ld_aload_n_0 (x_dk dn_374_0_1_ok 22 rfl))))
  (e_Tok2
  (e_Lok (lk_12_663g ho_374 (x_dk dn_374_0_1_ok 23 rfl)))
  (e_Tok2
  (e_Lok (ld_iload_6 (x_dk dn_374_0_1_ok 24 rfl)))
  (e_Lok (lk_12_333 ho_374 (x_dk dn_374_0_2_ok 0 rfl))))))
  (e_Tok2
  (e_Tok2
  (e_Lok (e_st (I := eI) (er_ifne (off := 9) (tg := 212) (x_dk dn_374_0_2_ok 1 rfl) (by decide)) nx_if1))
  (e_Tok2
  (e_Lok (ld_aload_n_0 (x_dk dn_374_0_2_ok 2 rfl)))
  (e_Lok (ps_iconst_2 (x_dk dn_374_0_2_ok 3 rfl)))))
  (e_Tok2
  (e_Lok (lk_12_672 ho_374 (x_dk dn_374_0_2_ok 4 rfl)))
  (e_Tok2
  (e_Lok (e_rt (I := eI) (k := 0) ⟨(x_dk dn_374_0_2_ok 5 rfl), rfl⟩))
  (e_Lok (ld_aload_n_0 (x_dk dn_374_0_2_ok 6 rfl)))))))
  (e_Tok2
  (e_Tok2
  (e_Tok2
  (e_Lok (ld_aload_n_0 (x_dk dn_374_0_2_ok 7 rfl)))
  (e_Tok2
  (e_Lok (lk_12_8g ho_374 (x_dk dn_374_0_2_ok 8 rfl)))
  (e_Lok (ld_aload_n_0 (x_dk dn_374_0_2_ok 9 rfl)))))
  (e_Tok2
  (e_Lok (lk_12_663g ho_374 (x_dk dn_374_0_2_ok 10 rfl)))
  (e_Tok2
  (e_Lok (lk_12_294 ho_374 (x_dk dn_374_0_2_ok 11 rfl)))
  (e_Lok (ps_bipush_16 (x_dk dn_374_0_2_ok 12 rfl))))))
  (e_Tok2
  (e_Tok2
  (e_Lok (sm_iadd (x_dk dn_374_0_2_ok 13 rfl)))
  (e_Tok2
  (e_Lok (ld_iload_6 (x_dk dn_374_0_2_ok 14 rfl)))
  (e_Lok (sm_iadd (x_dk dn_374_0_2_ok 15 rfl)))))
  (e_Tok2
  (e_Lok (sm_iaload (x_dk dn_374_0_2_ok 16 rfl)))
  (e_Tok2
  (e_Lok (lk_12_711 ho_374 (x_dk dn_374_0_2_ok 17 rfl)))
  (e_Lok (e_st (I := eI) (er_goto (off := 223) (tg := 457) (x_dk dn_374_0_2_ok 18 rfl) (by decide)) nx_goto)))))))
def te_374_69 : Nat → eE := (e_T 255 (e_T 243 (e_T 238 (e_T 237 (e_L 237 (0, ei_load 0 2 238, 0, 0)) (e_L 238 (0, ei_load 0 2 239, 0, 0))) (e_T 239 (e_L 239 (0, ei_getf eft elay 12 0 242, 0, 0)) (e_T 242 (e_L 242 (0, ei_push (0, 0) 243, 0, 0)) (e_L 243 (0, ei_ald elay false 244, 0, 0))))) (e_T 250 (e_T 244 (e_L 244 (2, e_nof, 363, 2)) (e_T 247 (e_L 247 (0, ei_goto 457, 0, 0)) (e_L 250 (0, ei_load 0 2 251, 0, 0)))) (e_T 251 (e_L 251 (0, ei_load 0 2 252, 0, 0)) (e_T 252 (e_L 252 (0, ei_getf eft elay 12 0 255, 0, 0)) (e_L 255 (0, ei_load 0 2 256, 0, 0)))))) (e_T 265 (e_T 260 (e_T 256 (e_L 256 (0, ei_getf eft elay 12 97 259, 0, 0)) (e_T 259 (e_L 259 (0, ei_push (0, 3) 260, 0, 0)) (e_L 260 (0, ei_bin eF_add 261, 0, 0)))) (e_T 261 (e_L 261 (0, ei_ald elay false 262, 0, 0)) (e_T 262 (e_L 262 (2, e_nof, 363, 2)) (e_L 265 (0, ei_goto 457, 0, 0))))) (e_T 270 (e_T 268 (e_L 268 (0, ei_load 0 2 269, 0, 0)) (e_T 269 (e_L 269 (0, ei_load 0 2 270, 0, 0)) (e_L 270 (0, ei_getf eft elay 12 0 273, 0, 0)))) (e_T 273 (e_L 273 (0, ei_push (0, 1) 274, 0, 0)) (e_T 274 (e_L 274 (0, ei_ald elay false 275, 0, 0)) (e_L 275 (2, e_nof, 363, 2)))))))
set_option maxRecDepth 20000 in
set_option maxHeartbeats 4000000 in
theorem te_374_69_ok : ∀ pc, e_EOq eft cls elay eI n_374 pc (te_374_69 pc) :=
  (e_Tok2
  (e_Tok2
  (e_Tok2
  (e_Tok2
  (e_Lok (ld_aload_n_0 (x_dk dn_374_0_2_ok 19 rfl)))
  (e_Lok (ld_aload_n_0 (x_dk dn_374_0_2_ok 20 rfl))))
  (e_Tok2
  (e_Lok (lk_12_8g ho_374 (x_dk dn_374_0_2_ok 21 rfl)))
  (e_Tok2
  (e_Lok (ps_iconst_0 (x_dk dn_374_0_2_ok 22 rfl)))
  (e_Lok (sm_iaload (x_dk dn_374_0_2_ok 23 rfl))))))
  (e_Tok2
  (e_Tok2
  (e_Lok (lk_12_711 ho_374 (x_dk dn_374_0_2_ok 24 rfl)))
  (e_Tok2
  (e_Lok (e_st (I := eI) (er_goto (off := 210) (tg := 457) (x_dk dn_374_0_3_ok 0 rfl) (by decide)) nx_goto))
  (e_Lok (ld_aload_n_0 (x_dk dn_374_0_3_ok 1 rfl)))))
  (e_Tok2
  (e_Lok (ld_aload_n_0 (x_dk dn_374_0_3_ok 2 rfl)))
  (e_Tok2
  (e_Lok (lk_12_8g ho_374 (x_dk dn_374_0_3_ok 3 rfl)))
  (e_Lok (ld_aload_n_0 (x_dk dn_374_0_3_ok 4 rfl)))))))
  (e_Tok2
  (e_Tok2
  (e_Tok2
  (e_Lok (lk_12_651g ho_374 (x_dk dn_374_0_3_ok 5 rfl)))
  (e_Tok2
  (e_Lok (ps_iconst_3 (x_dk dn_374_0_3_ok 6 rfl)))
  (e_Lok (sm_iadd (x_dk dn_374_0_3_ok 7 rfl)))))
  (e_Tok2
  (e_Lok (sm_iaload (x_dk dn_374_0_3_ok 8 rfl)))
  (e_Tok2
  (e_Lok (lk_12_711 ho_374 (x_dk dn_374_0_3_ok 9 rfl)))
  (e_Lok (e_st (I := eI) (er_goto (off := 192) (tg := 457) (x_dk dn_374_0_3_ok 10 rfl) (by decide)) nx_goto)))))
  (e_Tok2
  (e_Tok2
  (e_Lok (ld_aload_n_0 (x_dk dn_374_0_3_ok 11 rfl)))
  (e_Tok2
  (e_Lok (ld_aload_n_0 (x_dk dn_374_0_3_ok 12 rfl)))
  (e_Lok (lk_12_8g ho_374 (x_dk dn_374_0_3_ok 13 rfl)))))
  (e_Tok2
  (e_Lok (ps_iconst_1 (x_dk dn_374_0_3_ok 14 rfl)))
  (e_Tok2
  (e_Lok (sm_iaload (x_dk dn_374_0_3_ok 15 rfl)))
  (e_Lok (lk_12_711 ho_374 (x_dk dn_374_0_3_ok 16 rfl))))))))
def te_374_92 : Nat → eE := (e_T 296 (e_T 286 (e_T 281 (e_T 278 (e_L 278 (0, ei_goto 457, 0, 0)) (e_L 281 (0, ei_load 0 2 282, 0, 0))) (e_T 282 (e_L 282 (0, ei_load 0 2 283, 0, 0)) (e_T 283 (e_L 283 (0, ei_getf eft elay 12 0 286, 0, 0)) (e_L 286 (0, ei_load 0 2 287, 0, 0))))) (e_T 293 (e_T 287 (e_L 287 (0, ei_getf eft elay 12 98 290, 0, 0)) (e_T 290 (e_L 290 (2, e_nof, 268, 1)) (e_L 293 (0, ei_push (0, 1) 294, 0, 0)))) (e_T 294 (e_L 294 (0, ei_bin eF_add 295, 0, 0)) (e_T 295 (e_L 295 (0, ei_ald elay false 296, 0, 0)) (e_L 296 (0, ei_if1 2 303 299, 0, 0)))))) (e_T 310 (e_T 303 (e_T 299 (e_L 299 (0, ei_push (0, 1) 300, 0, 0)) (e_T 300 (e_L 300 (0, ei_goto 304, 0, 0)) (e_L 303 (0, ei_push (0, 0) 304, 0, 0)))) (e_T 304 (e_L 304 (2, e_nof, 363, 2)) (e_T 307 (e_L 307 (0, ei_goto 457, 0, 0)) (e_L 310 (0, ei_load 0 2 311, 0, 0))))) (e_T 315 (e_T 311 (e_L 311 (0, ei_load 0 2 312, 0, 0)) (e_T 312 (e_L 312 (2, e_nof, 364, 1)) (e_L 315 (0, ei_un (fun x => (0, e32 (-x))) 316, 0, 0)))) (e_T 316 (e_L 316 (2, e_nof, 363, 2)) (e_T 319 (e_L 319 (0, ei_goto 457, 0, 0)) (e_L 322 (0, ei_load 0 2 323, 0, 0)))))))
set_option maxRecDepth 20000 in
set_option maxHeartbeats 4000000 in
theorem te_374_92_ok : ∀ pc, e_EOq eft cls elay eI n_374 pc (te_374_92 pc) :=
  (e_Tok2
  (e_Tok2
  (e_Tok2
  (e_Tok2
  (e_Lok (e_st (I := eI) (er_goto (off := 179) (tg := 457) (x_dk dn_374_0_3_ok 17 rfl) (by decide)) nx_goto))
  (e_Lok (ld_aload_n_0 (x_dk dn_374_0_3_ok 18 rfl))))
  (e_Tok2
  (e_Lok (ld_aload_n_0 (x_dk dn_374_0_3_ok 19 rfl)))
  (e_Tok2
  (e_Lok (lk_12_8g ho_374 (x_dk dn_374_0_3_ok 20 rfl)))
  (e_Lok (ld_aload_n_0 (x_dk dn_374_0_3_ok 21 rfl))))))
  (e_Tok2
  (e_Tok2
  (e_Lok (lk_12_663g ho_374 (x_dk dn_374_0_3_ok 22 rfl)))
  (e_Tok2
  (e_Lok (lk_12_294 ho_374 (x_dk dn_374_0_3_ok 23 rfl)))
  (e_Lok (ps_iconst_1 (x_dk dn_374_0_3_ok 24 rfl)))))
  (e_Tok2
  (e_Lok (sm_iadd (x_dk dn_374_1_0_ok 0 rfl)))
  (e_Tok2
  (e_Lok (sm_iaload (x_dk dn_374_1_0_ok 1 rfl)))
  (e_Lok (e_st (I := eI) (er_iflt (off := 7) (tg := 303) (x_dk dn_374_1_0_ok 2 rfl) (by decide)) nx_if1))))))
  (e_Tok2
  (e_Tok2
  (e_Tok2
  (e_Lok (ps_iconst_1 (x_dk dn_374_1_0_ok 3 rfl)))
  (e_Tok2
  (e_Lok (e_st (I := eI) (er_goto (off := 4) (tg := 304) (x_dk dn_374_1_0_ok 4 rfl) (by decide)) nx_goto))
  (e_Lok (ps_iconst_0 (x_dk dn_374_1_0_ok 5 rfl)))))
  (e_Tok2
  (e_Lok (lk_12_711 ho_374 (x_dk dn_374_1_0_ok 6 rfl)))
  (e_Tok2
  (e_Lok (e_st (I := eI) (er_goto (off := 150) (tg := 457) (x_dk dn_374_1_0_ok 7 rfl) (by decide)) nx_goto))
  (e_Lok (ld_aload_n_0 (x_dk dn_374_1_0_ok 8 rfl))))))
  (e_Tok2
  (e_Tok2
  (e_Lok (ld_aload_n_0 (x_dk dn_374_1_0_ok 9 rfl)))
  (e_Tok2
  (e_Lok (lk_12_714 ho_374 (x_dk dn_374_1_0_ok 10 rfl)))
  (e_Lok (e_st (I := eI) (er_ineg (x_dk dn_374_1_0_ok 11 rfl)) (nx_un (fun _ => rfl))))))
  (e_Tok2
  (e_Lok (lk_12_711 ho_374 (x_dk dn_374_1_0_ok 12 rfl)))
  (e_Tok2
  (e_Lok (e_st (I := eI) (er_goto (off := 138) (tg := 457) (x_dk dn_374_1_0_ok 13 rfl) (by decide)) nx_goto))
  (e_Lok (ld_aload_n_0 (x_dk dn_374_1_0_ok 14 rfl))))))))
def te_374_115 : Nat → eE := (e_T 343 (e_T 331 (e_T 324 (e_T 323 (e_L 323 (0, ei_load 0 2 324, 0, 0)) (e_L 324 (2, e_nof, 364, 1))) (e_T 327 (e_L 327 (0, ei_if1 1 334 330, 0, 0)) (e_T 330 (e_L 330 (0, ei_push (0, 1) 331, 0, 0)) (e_L 331 (0, ei_goto 335, 0, 0))))) (e_T 338 (e_T 334 (e_L 334 (0, ei_push (0, 0) 335, 0, 0)) (e_T 335 (e_L 335 (2, e_nof, 363, 2)) (e_L 338 (0, ei_goto 457, 0, 0)))) (e_T 341 (e_L 341 (0, ei_load 0 2 342, 0, 0)) (e_T 342 (e_L 342 (0, ei_load 0 2 343, 0, 0)) (e_L 343 (2, e_nof, 364, 1)))))) (e_T 357 (e_T 350 (e_T 346 (e_L 346 (0, ei_if1 1 353 349, 0, 0)) (e_T 349 (e_L 349 (0, ei_push (0, 0) 350, 0, 0)) (e_L 350 (0, ei_goto 354, 0, 0)))) (e_T 353 (e_L 353 (0, ei_push (0, 1) 354, 0, 0)) (e_T 354 (e_L 354 (2, e_nof, 363, 2)) (e_L 357 (0, ei_goto 457, 0, 0))))) (e_T 364 (e_T 360 (e_L 360 (0, ei_load 0 2 361, 0, 0)) (e_T 361 (e_L 361 (2, e_nof, 364, 1)) (e_L 364 (0, ei_if1 0 371 367, 0, 0)))) (e_T 367 (e_L 367 (0, ei_push (0, 1) 368, 0, 0)) (e_T 368 (e_L 368 (0, ei_goto 372, 0, 0)) (e_L 371 (0, ei_push (0, 0) 372, 0, 0)))))))
set_option maxRecDepth 20000 in
set_option maxHeartbeats 4000000 in
theorem te_374_115_ok : ∀ pc, e_EOq eft cls elay eI n_374 pc (te_374_115 pc) :=
  (e_Tok2
  (e_Tok2
  (e_Tok2
  (e_Tok2
  (e_Lok (ld_aload_n_0 (x_dk dn_374_1_0_ok 15 rfl)))
  (e_Lok (lk_12_714 ho_374 (x_dk dn_374_1_0_ok 16 rfl))))
  (e_Tok2
  (e_Lok (e_st (I := eI) (er_ifne (off := 7) (tg := 334) (x_dk dn_374_1_0_ok 17 rfl) (by decide)) nx_if1))
  (e_Tok2
  (e_Lok (ps_iconst_1 (x_dk dn_374_1_0_ok 18 rfl)))
  (e_Lok (e_st (I := eI) (er_goto (off := 4) (tg := 335) (x_dk dn_374_1_0_ok 19 rfl) (by decide)) nx_goto)))))
  (e_Tok2
  (e_Tok2
  (e_Lok (ps_iconst_0 (x_dk dn_374_1_0_ok 20 rfl)))
  (e_Tok2
  (e_Lok (lk_12_711 ho_374 (x_dk dn_374_1_0_ok 21 rfl)))
  (e_Lok (e_st (I := eI) (er_goto (off := 119) (tg := 457) (x_dk dn_374_1_0_ok 22 rfl) (by decide)) nx_goto))))
  (e_Tok2
  (e_Lok (ld_aload_n_0 (x_dk dn_374_1_0_ok 23 rfl)))
  (e_Tok2
  (e_Lok (ld_aload_n_0 (x_dk dn_374_1_0_ok 24 rfl)))
  (e_Lok (lk_12_714 ho_374 (x_dk dn_374_1_1_ok 0 rfl)))))))
  (e_Tok2
  (e_Tok2
  (e_Tok2
  (e_Lok (e_st (I := eI) (er_ifne (off := 7) (tg := 353) (x_dk dn_374_1_1_ok 1 rfl) (by decide)) nx_if1))
  (e_Tok2
  (e_Lok (ps_iconst_0 (x_dk dn_374_1_1_ok 2 rfl)))
  (e_Lok (e_st (I := eI) (er_goto (off := 4) (tg := 354) (x_dk dn_374_1_1_ok 3 rfl) (by decide)) nx_goto))))
  (e_Tok2
  (e_Lok (ps_iconst_1 (x_dk dn_374_1_1_ok 4 rfl)))
  (e_Tok2
  (e_Lok (lk_12_711 ho_374 (x_dk dn_374_1_1_ok 5 rfl)))
  (e_Lok (e_st (I := eI) (er_goto (off := 100) (tg := 457) (x_dk dn_374_1_1_ok 6 rfl) (by decide)) nx_goto)))))
  (e_Tok2
  (e_Tok2
  (e_Lok (ld_aload_n_0 (x_dk dn_374_1_1_ok 7 rfl)))
  (e_Tok2
  (e_Lok (lk_12_714 ho_374 (x_dk dn_374_1_1_ok 8 rfl)))
  (e_Lok (e_st (I := eI) (er_ifeq (off := 7) (tg := 371) (x_dk dn_374_1_1_ok 9 rfl) (by decide)) nx_if1))))
  (e_Tok2
  (e_Lok (ps_iconst_1 (x_dk dn_374_1_1_ok 10 rfl)))
  (e_Tok2
  (e_Lok (e_st (I := eI) (er_goto (off := 4) (tg := 372) (x_dk dn_374_1_1_ok 11 rfl) (by decide)) nx_goto))
  (e_Lok (ps_iconst_0 (x_dk dn_374_1_1_ok 12 rfl))))))))
def te_374_138 : Nat → eE := (e_T 391 (e_T 379 (e_T 374 (e_T 372 (e_L 372 (0, ei_stor 7 0 374, 0, 0)) (e_L 374 (0, ei_load 7 0 376, 0, 0))) (e_T 376 (e_L 376 (0, ei_load 1 0 377, 0, 0)) (e_T 377 (e_L 377 (0, ei_push (0, 22) 379, 0, 0)) (e_L 379 (0, ei_if2 1 386 382, 0, 0))))) (e_T 386 (e_T 382 (e_L 382 (0, ei_push (0, 1) 383, 0, 0)) (e_T 383 (e_L 383 (0, ei_goto 387, 0, 0)) (e_L 386 (0, ei_push (0, 0) 387, 0, 0)))) (e_T 387 (e_L 387 (0, ei_if2 1 457 390, 0, 0)) (e_T 390 (e_L 390 (0, ei_load 0 2 391, 0, 0)) (e_L 391 (0, ei_load 7 0 393, 0, 0)))))) (e_T 404 (e_T 397 (e_T 393 (e_L 393 (0, ei_if1 0 400 396, 0, 0)) (e_T 396 (e_L 396 (0, ei_push (0, 1) 397, 0, 0)) (e_L 397 (0, ei_goto 401, 0, 0)))) (e_T 400 (e_L 400 (0, ei_push (0, 0) 401, 0, 0)) (e_T 401 (e_L 401 (2, e_nof, 363, 2)) (e_L 404 (0, ei_load 2 0 405, 0, 0))))) (e_T 410 (e_T 405 (e_L 405 (0, ei_stor 4 0 407, 0, 0)) (e_T 407 (e_L 407 (0, ei_goto 457, 0, 0)) (e_L 410 (0, ei_load 0 2 411, 0, 0)))) (e_T 411 (e_L 411 (2, e_nof, 364, 1)) (e_T 414 (e_L 414 (0, ei_stor 8 0 416, 0, 0)) (e_L 416 (0, ei_load 0 2 417, 0, 0)))))))
set_option maxRecDepth 20000 in
set_option maxHeartbeats 4000000 in
theorem te_374_138_ok : ∀ pc, e_EOq eft cls elay eI n_374 pc (te_374_138 pc) :=
  (e_Tok2
  (e_Tok2
  (e_Tok2
  (e_Tok2
  (e_Lok (e_st (I := eI) (er_istore (i := 7) (x_dk dn_374_1_1_ok 13 rfl) (by decide +kernel)) nx_stor))
  (e_Lok (ld_iload_7 (x_dk dn_374_1_1_ok 14 rfl))))
  (e_Tok2
  (e_Lok (ld_iload_n_1 (x_dk dn_374_1_1_ok 15 rfl)))
  (e_Tok2
  (e_Lok (ps_bipush_22 (x_dk dn_374_1_1_ok 16 rfl)))
  (e_Lok (e_st (I := eI) (er_icmpne (off := 7) (tg := 386) (x_dk dn_374_1_1_ok 17 rfl) (by decide)) nx_if2)))))
  (e_Tok2
  (e_Tok2
  (e_Lok (ps_iconst_1 (x_dk dn_374_1_1_ok 18 rfl)))
  (e_Tok2
  (e_Lok (e_st (I := eI) (er_goto (off := 4) (tg := 387) (x_dk dn_374_1_1_ok 19 rfl) (by decide)) nx_goto))
  (e_Lok (ps_iconst_0 (x_dk dn_374_1_1_ok 20 rfl)))))
  (e_Tok2
  (e_Lok (e_st (I := eI) (er_icmpne (off := 70) (tg := 457) (x_dk dn_374_1_1_ok 21 rfl) (by decide)) nx_if2))
  (e_Tok2
  (e_Lok (ld_aload_n_0 (x_dk dn_374_1_1_ok 22 rfl)))
  (e_Lok (ld_iload_7 (x_dk dn_374_1_1_ok 23 rfl)))))))
  (e_Tok2
  (e_Tok2
  (e_Tok2
  (e_Lok (e_st (I := eI) (er_ifeq (off := 7) (tg := 400) (x_dk dn_374_1_1_ok 24 rfl) (by decide)) nx_if1))
  (e_Tok2
  (e_Lok (ps_iconst_1 (x_dk dn_374_1_2_ok 0 rfl)))
  (e_Lok (e_st (I := eI) (er_goto (off := 4) (tg := 401) (x_dk dn_374_1_2_ok 1 rfl) (by decide)) nx_goto))))
  (e_Tok2
  (e_Lok (ps_iconst_0 (x_dk dn_374_1_2_ok 2 rfl)))
  (e_Tok2
  (e_Lok (lk_12_711 ho_374 (x_dk dn_374_1_2_ok 3 rfl)))
  (e_Lok (ld_iload_n_2 (x_dk dn_374_1_2_ok 4 rfl))))))
  (e_Tok2
  (e_Tok2
  (e_Lok (e_st (I := eI) (er_istore (i := 4) (x_dk dn_374_1_2_ok 5 rfl) (by decide +kernel)) nx_stor))
  (e_Tok2
  (e_Lok (e_st (I := eI) (er_goto (off := 50) (tg := 457) (x_dk dn_374_1_2_ok 6 rfl) (by decide)) nx_goto))
  (e_Lok (ld_aload_n_0 (x_dk dn_374_1_2_ok 7 rfl)))))
  (e_Tok2
  (e_Lok (lk_12_714 ho_374 (x_dk dn_374_1_2_ok 8 rfl)))
  (e_Tok2
  (e_Lok (e_st (I := eI) (er_istore (i := 8) (x_dk dn_374_1_2_ok 9 rfl) (by decide +kernel)) nx_stor))
  (e_Lok (ld_aload_n_0 (x_dk dn_374_1_2_ok 10 rfl))))))))
def te_374_161 : Nat → eE := (e_T 440 (e_T 428 (e_T 422 (e_T 417 (e_L 417 (2, e_nof, 364, 1)) (e_T 420 (e_L 420 (0, ei_stor 9 0 422, 0, 0)) (e_L 422 (0, ei_load 8 0 424, 0, 0)))) (e_T 424 (e_L 424 (0, ei_if1 1 445 427, 0, 0)) (e_T 427 (e_L 427 (0, ei_load 1 0 428, 0, 0)) (e_L 428 (0, ei_push (0, 13) 430, 0, 0))))) (e_T 434 (e_T 430 (e_L 430 (0, ei_if2 0 439 433, 0, 0)) (e_T 433 (e_L 433 (0, ei_load 1 0 434, 0, 0)) (e_L 434 (0, ei_push (0, 14) 436, 0, 0)))) (e_T 436 (e_L 436 (0, ei_if2 1 445 439, 0, 0)) (e_T 439 (e_L 439 (0, ei_load 0 2 440, 0, 0)) (e_L 440 (0, ei_push (0, 1) 441, 0, 0)))))) (e_T 449 (e_T 445 (e_T 441 (e_L 441 (2, e_nof, 369, 2)) (e_T 444 (e_L 444 (1, e_nof, 0, 0)) (e_L 445 (0, ei_load 0 2 446, 0, 0)))) (e_T 446 (e_L 446 (0, ei_load 1 0 447, 0, 0)) (e_T 447 (e_L 447 (0, ei_load 9 0 449, 0, 0)) (e_L 449 (0, ei_load 8 0 451, 0, 0))))) (e_T 457 (e_T 451 (e_L 451 (2, e_nof, 375, 3)) (e_T 454 (e_L 454 (2, e_nof, 363, 2)) (e_L 457 (0, ei_load 0 2 458, 0, 0)))) (e_T 458 (e_L 458 (0, ei_load 4 0 460, 0, 0)) (e_T 460 (e_L 460 (2, e_nof, 365, 2)) (e_L 463 (1, e_nof, 0, 0)))))))
set_option maxRecDepth 20000 in
set_option maxHeartbeats 4000000 in
theorem te_374_161_ok : ∀ pc, e_EOq eft cls elay eI n_374 pc (te_374_161 pc) :=
  (e_Tok2
  (e_Tok2
  (e_Tok2
  (e_Tok2
  (e_Lok (lk_12_714 ho_374 (x_dk dn_374_1_2_ok 11 rfl)))
  (e_Tok2
  (e_Lok (e_st (I := eI) (er_istore (i := 9) (x_dk dn_374_1_2_ok 12 rfl) (by decide +kernel)) nx_stor))
  (e_Lok (ld_iload_8 (x_dk dn_374_1_2_ok 13 rfl)))))
  (e_Tok2
  (e_Lok (e_st (I := eI) (er_ifne (off := 21) (tg := 445) (x_dk dn_374_1_2_ok 14 rfl) (by decide)) nx_if1))
  (e_Tok2
  (e_Lok (ld_iload_n_1 (x_dk dn_374_1_2_ok 15 rfl)))
  (e_Lok (ps_bipush_13 (x_dk dn_374_1_2_ok 16 rfl))))))
  (e_Tok2
  (e_Tok2
  (e_Lok (e_st (I := eI) (er_icmpeq (off := 9) (tg := 439) (x_dk dn_374_1_2_ok 17 rfl) (by decide)) nx_if2))
  (e_Tok2
  (e_Lok (ld_iload_n_1 (x_dk dn_374_1_2_ok 18 rfl)))
  (e_Lok (ps_bipush_14 (x_dk dn_374_1_2_ok 19 rfl)))))
  (e_Tok2
  (e_Lok (e_st (I := eI) (er_icmpne (off := 9) (tg := 445) (x_dk dn_374_1_2_ok 20 rfl) (by decide)) nx_if2))
  (e_Tok2
  (e_Lok (ld_aload_n_0 (x_dk dn_374_1_2_ok 21 rfl)))
  (e_Lok (ps_iconst_1 (x_dk dn_374_1_2_ok 22 rfl)))))))
  (e_Tok2
  (e_Tok2
  (e_Tok2
  (e_Lok (lk_12_672 ho_374 (x_dk dn_374_1_2_ok 23 rfl)))
  (e_Tok2
  (e_Lok (e_rt (I := eI) (k := 0) ⟨(x_dk dn_374_1_2_ok 24 rfl), rfl⟩))
  (e_Lok (ld_aload_n_0 (x_dk dn_374_1_3_ok 0 rfl)))))
  (e_Tok2
  (e_Lok (ld_iload_n_1 (x_dk dn_374_1_3_ok 1 rfl)))
  (e_Tok2
  (e_Lok (ld_iload_9 (x_dk dn_374_1_3_ok 2 rfl)))
  (e_Lok (ld_iload_8 (x_dk dn_374_1_3_ok 3 rfl))))))
  (e_Tok2
  (e_Tok2
  (e_Lok (lk_12_717 ho_374 (x_dk dn_374_1_3_ok 4 rfl)))
  (e_Tok2
  (e_Lok (lk_12_711 ho_374 (x_dk dn_374_1_3_ok 5 rfl)))
  (e_Lok (ld_aload_n_0 (x_dk dn_374_1_3_ok 6 rfl)))))
  (e_Tok2
  (e_Lok (ld_iload_4 (x_dk dn_374_1_3_ok 7 rfl)))
  (e_Tok2
  (e_Lok (lk_12_678 ho_374 (x_dk dn_374_1_3_ok 8 rfl)))
  (e_Lok (e_rt (I := eI) (k := 0) ⟨(x_dk dn_374_1_3_ok 9 rfl), rfl⟩)))))))
def te_374 : Nat → eE := (e_T 275 (e_T 191 (e_T 143 te_374_0 te_374_23) (e_T 234 te_374_46 te_374_69)) (e_T 371 (e_T 322 te_374_92 te_374_115) (e_T 416 te_374_138 te_374_161)))
theorem te_374_ok : ∀ pc, e_EOq eft cls elay eI n_374 pc (te_374 pc) := (e_Tok2 ((e_Tok2 ((e_Tok2 (te_374_0_ok) (te_374_23_ok))) ((e_Tok2 (te_374_46_ok) (te_374_69_ok))))) ((e_Tok2 ((e_Tok2 (te_374_92_ok) (te_374_115_ok))) ((e_Tok2 (te_374_138_ok) (te_374_161_ok))))))
theorem ho_375 : (xm_y n_375).cls = "RobotCellHouseModel" := rfl
def dn_375_0_0 : List (Nat × Instr × Nat) := [(0, .iload_n 0, 1), (1, .tableswitch 130 10 19 #[55, 59, 63, 67, 71, 75, 86, 97, 108, 119], 55), (56, .iload_n 1, 1), (57, .iload_n 2, 1), (58, .iadd, 1), (59, .ireturn, 1), (60, .iload_n 1, 1), (61, .iload_n 2, 1), (62, .isub, 1), (63, .ireturn, 1), (64, .iload_n 1, 1), (65, .iload_n 2, 1), (66, .imul, 1), (67, .ireturn, 1), (68, .iload_n 1, 1), (69, .iload_n 2, 1), (70, .idiv, 1), (71, .ireturn, 1), (72, .iload_n 1, 1), (73, .iload_n 2, 1), (74, .irem, 1), (75, .ireturn, 1), (76, .iload_n 1, 1), (77, .iload_n 2, 1), (78, .if_icmp .ne 7, 3)]
set_option maxRecDepth 20000 in
theorem dn_375_0_0_ok : dn_375_0_0.all (fun q => decide (decode (xm_b n_375) q.1 = .ok (q.2.1, q.2.2))) = true := xa_g_ok (by decide +kernel)
def dn_375_0_1 : List (Nat × Instr × Nat) := [(81, .iconst 1, 1), (82, .goto 4, 3), (85, .iconst 0, 1), (86, .ireturn, 1), (87, .iload_n 1, 1), (88, .iload_n 2, 1), (89, .if_icmp .eq 7, 3), (92, .iconst 1, 1), (93, .goto 4, 3), (96, .iconst 0, 1), (97, .ireturn, 1), (98, .iload_n 1, 1), (99, .iload_n 2, 1), (100, .if_icmp .ge 7, 3), (103, .iconst 1, 1), (104, .goto 4, 3), (107, .iconst 0, 1), (108, .ireturn, 1), (109, .iload_n 1, 1), (110, .iload_n 2, 1), (111, .if_icmp .gt 7, 3), (114, .iconst 1, 1), (115, .goto 4, 3), (118, .iconst 0, 1), (119, .ireturn, 1)]
set_option maxRecDepth 20000 in
theorem dn_375_0_1_ok : dn_375_0_1.all (fun q => decide (decode (xm_b n_375) q.1 = .ok (q.2.1, q.2.2))) = true := xa_g_ok (by decide +kernel)
def dn_375_0_2 : List (Nat × Instr × Nat) := [(120, .iload_n 1, 1), (121, .iload_n 2, 1), (122, .if_icmp .le 7, 3), (125, .iconst 1, 1), (126, .goto 4, 3), (129, .iconst 0, 1), (130, .ireturn, 1), (131, .iload_n 1, 1), (132, .iload_n 2, 1), (133, .if_icmp .lt 7, 3), (136, .iconst 1, 1), (137, .goto 4, 3), (140, .iconst 0, 1), (141, .ireturn, 1)]
set_option maxRecDepth 20000 in
theorem dn_375_0_2_ok : dn_375_0_2.all (fun q => decide (decode (xm_b n_375) q.1 = .ok (q.2.1, q.2.2))) = true := xa_g_ok (by decide +kernel)
def te_375_0 : Nat → eE := (e_T 69 (e_T 61 (e_T 57 (e_T 1 (e_T 0 (e_L 0 (0, ei_load 0 0 1, 0, 0)) (e_L 1 (0, ei_sw [((-2147483648), 9, 131), (10, 10, 56), (11, 11, 60), (12, 12, 64), (13, 13, 68), (14, 14, 72), (15, 15, 76), (16, 16, 87), (17, 17, 98), (18, 18, 109), (19, 19, 120), (20, 2147483647, 131)], 0, 0))) (e_T 56 (e_L 56 (0, ei_load 1 0 57, 0, 0)) (e_L 57 (0, ei_load 2 0 58, 0, 0)))) (e_T 59 (e_T 58 (e_L 58 (0, ei_bin eF_add 59, 0, 0)) (e_L 59 (1, e_nof, 1, 0))) (e_T 60 (e_L 60 (0, ei_load 1 0 61, 0, 0)) (e_L 61 (0, ei_load 2 0 62, 0, 0))))) (e_T 65 (e_T 63 (e_T 62 (e_L 62 (0, ei_bin eF_sub 63, 0, 0)) (e_L 63 (1, e_nof, 1, 0))) (e_T 64 (e_L 64 (0, ei_load 1 0 65, 0, 0)) (e_L 65 (0, ei_load 2 0 66, 0, 0)))) (e_T 67 (e_T 66 (e_L 66 (0, ei_bin eF_mul 67, 0, 0)) (e_L 67 (1, e_nof, 1, 0))) (e_T 68 (e_L 68 (0, ei_load 1 0 69, 0, 0)) (e_L 69 (0, ei_load 2 0 70, 0, 0)))))) (e_T 77 (e_T 73 (e_T 71 (e_T 70 (e_L 70 (0, ei_bin eF_div 71, 0, 0)) (e_L 71 (1, e_nof, 1, 0))) (e_T 72 (e_L 72 (0, ei_load 1 0 73, 0, 0)) (e_L 73 (0, ei_load 2 0 74, 0, 0)))) (e_T 75 (e_T 74 (e_L 74 (0, ei_bin eF_rem 75, 0, 0)) (e_L 75 (1, e_nof, 1, 0))) (e_T 76 (e_L 76 (0, ei_load 1 0 77, 0, 0)) (e_L 77 (0, ei_load 2 0 78, 0, 0))))) (e_T 85 (e_T 81 (e_T 78 (e_L 78 (0, ei_if2 1 85 81, 0, 0)) (e_L 81 (0, ei_push (0, 1) 82, 0, 0))) (e_T 82 (e_L 82 (0, ei_goto 86, 0, 0)) (e_L 85 (0, ei_push (0, 0) 86, 0, 0)))) (e_T 87 (e_T 86 (e_L 86 (1, e_nof, 1, 0)) (e_L 87 (0, ei_load 1 0 88, 0, 0))) (e_T 88 (e_L 88 (0, ei_load 2 0 89, 0, 0)) (e_L 89 (0, ei_if2 0 96 92, 0, 0)))))))
set_option maxRecDepth 20000 in
set_option maxHeartbeats 4000000 in
theorem te_375_0_ok : ∀ pc, e_EOq eft cls elay eI n_375 pc (te_375_0 pc) :=
  (e_Tok2
  (e_Tok2
  (e_Tok2
  (e_Tok2
  (e_Tok2
  (e_Lok (ld_iload_n_0 (x_dk dn_375_0_0_ok 0 rfl)))
  (e_Lok (e_st (I := eI) (er_tsw (dflt := 130) (lo := 10) (hi := 19) (offs := #[55, 59, 63, 67, 71, 75, 86, 97, 108, 119]) (len := 55) (n := 10) (x_dk dn_375_0_0_ok 1 rfl) (by decide) (by decide +kernel)) nx_sw)))
  (e_Tok2
  (e_Lok (ld_iload_n_1 (x_dk dn_375_0_0_ok 2 rfl)))
  (e_Lok (ld_iload_n_2 (x_dk dn_375_0_0_ok 3 rfl)))))
  (e_Tok2
  (e_Tok2
  (e_Lok (sm_iadd (x_dk dn_375_0_0_ok 4 rfl)))
  (e_Lok (e_rt (I := eI) (k := 1) ⟨(x_dk dn_375_0_0_ok 5 rfl), rfl⟩)))
  (e_Tok2
  (e_Lok (ld_iload_n_1 (x_dk dn_375_0_0_ok 6 rfl)))
  (e_Lok (ld_iload_n_2 (x_dk dn_375_0_0_ok 7 rfl))))))
  (e_Tok2
  (e_Tok2
  (e_Tok2
  (e_Lok (sm_isub (x_dk dn_375_0_0_ok 8 rfl)))
  (e_Lok (e_rt (I := eI) (k := 1) ⟨(x_dk dn_375_0_0_ok 9 rfl), rfl⟩)))
  (e_Tok2
  (e_Lok (ld_iload_n_1 (x_dk dn_375_0_0_ok 10 rfl)))
  (e_Lok (ld_iload_n_2 (x_dk dn_375_0_0_ok 11 rfl)))))
  (e_Tok2
  (e_Tok2
  (e_Lok (sm_imul (x_dk dn_375_0_0_ok 12 rfl)))
  (e_Lok (e_rt (I := eI) (k := 1) ⟨(x_dk dn_375_0_0_ok 13 rfl), rfl⟩)))
  (e_Tok2
  (e_Lok (ld_iload_n_1 (x_dk dn_375_0_0_ok 14 rfl)))
  (e_Lok (ld_iload_n_2 (x_dk dn_375_0_0_ok 15 rfl)))))))
  (e_Tok2
  (e_Tok2
  (e_Tok2
  (e_Tok2
  (e_Lok (e_st (I := eI) (er_idiv (x_dk dn_375_0_0_ok 16 rfl)) nx_bin))
  (e_Lok (e_rt (I := eI) (k := 1) ⟨(x_dk dn_375_0_0_ok 17 rfl), rfl⟩)))
  (e_Tok2
  (e_Lok (ld_iload_n_1 (x_dk dn_375_0_0_ok 18 rfl)))
  (e_Lok (ld_iload_n_2 (x_dk dn_375_0_0_ok 19 rfl)))))
  (e_Tok2
  (e_Tok2
  (e_Lok (e_st (I := eI) (er_irem (x_dk dn_375_0_0_ok 20 rfl)) nx_bin))
  (e_Lok (e_rt (I := eI) (k := 1) ⟨(x_dk dn_375_0_0_ok 21 rfl), rfl⟩)))
  (e_Tok2
  (e_Lok (ld_iload_n_1 (x_dk dn_375_0_0_ok 22 rfl)))
  (e_Lok (ld_iload_n_2 (x_dk dn_375_0_0_ok 23 rfl))))))
  (e_Tok2
  (e_Tok2
  (e_Tok2
  (e_Lok (e_st (I := eI) (er_icmpne (off := 7) (tg := 85) (x_dk dn_375_0_0_ok 24 rfl) (by decide)) nx_if2))
  (e_Lok (ps_iconst_1 (x_dk dn_375_0_1_ok 0 rfl))))
  (e_Tok2
  (e_Lok (e_st (I := eI) (er_goto (off := 4) (tg := 86) (x_dk dn_375_0_1_ok 1 rfl) (by decide)) nx_goto))
  (e_Lok (ps_iconst_0 (x_dk dn_375_0_1_ok 2 rfl)))))
  (e_Tok2
  (e_Tok2
  (e_Lok (e_rt (I := eI) (k := 1) ⟨(x_dk dn_375_0_1_ok 3 rfl), rfl⟩))
  (e_Lok (ld_iload_n_1 (x_dk dn_375_0_1_ok 4 rfl))))
  (e_Tok2
  (e_Lok (ld_iload_n_2 (x_dk dn_375_0_1_ok 5 rfl)))
  (e_Lok (e_st (I := eI) (er_icmpeq (off := 7) (tg := 96) (x_dk dn_375_0_1_ok 6 rfl) (by decide)) nx_if2)))))))
def te_375_32 : Nat → eE := (e_T 115 (e_T 103 (e_T 97 (e_T 93 (e_T 92 (e_L 92 (0, ei_push (0, 1) 93, 0, 0)) (e_L 93 (0, ei_goto 97, 0, 0))) (e_T 96 (e_L 96 (0, ei_push (0, 0) 97, 0, 0)) (e_L 97 (1, e_nof, 1, 0)))) (e_T 99 (e_T 98 (e_L 98 (0, ei_load 1 0 99, 0, 0)) (e_L 99 (0, ei_load 2 0 100, 0, 0))) (e_T 100 (e_L 100 (0, ei_if2 3 107 103, 0, 0)) (e_L 103 (0, ei_push (0, 1) 104, 0, 0))))) (e_T 109 (e_T 107 (e_T 104 (e_L 104 (0, ei_goto 108, 0, 0)) (e_L 107 (0, ei_push (0, 0) 108, 0, 0))) (e_T 108 (e_L 108 (1, e_nof, 1, 0)) (e_L 109 (0, ei_load 1 0 110, 0, 0)))) (e_T 111 (e_T 110 (e_L 110 (0, ei_load 2 0 111, 0, 0)) (e_L 111 (0, ei_if2 4 118 114, 0, 0))) (e_T 114 (e_L 114 (0, ei_push (0, 1) 115, 0, 0)) (e_L 115 (0, ei_goto 119, 0, 0)))))) (e_T 129 (e_T 121 (e_T 119 (e_T 118 (e_L 118 (0, ei_push (0, 0) 119, 0, 0)) (e_L 119 (1, e_nof, 1, 0))) (e_T 120 (e_L 120 (0, ei_load 1 0 121, 0, 0)) (e_L 121 (0, ei_load 2 0 122, 0, 0)))) (e_T 125 (e_T 122 (e_L 122 (0, ei_if2 5 129 125, 0, 0)) (e_L 125 (0, ei_push (0, 1) 126, 0, 0))) (e_T 126 (e_L 126 (0, ei_goto 130, 0, 0)) (e_L 129 (0, ei_push (0, 0) 130, 0, 0))))) (e_T 133 (e_T 131 (e_T 130 (e_L 130 (1, e_nof, 1, 0)) (e_L 131 (0, ei_load 1 0 132, 0, 0))) (e_T 132 (e_L 132 (0, ei_load 2 0 133, 0, 0)) (e_L 133 (0, ei_if2 2 140 136, 0, 0)))) (e_T 137 (e_T 136 (e_L 136 (0, ei_push (0, 1) 137, 0, 0)) (e_L 137 (0, ei_goto 141, 0, 0))) (e_T 140 (e_L 140 (0, ei_push (0, 0) 141, 0, 0)) (e_L 141 (1, e_nof, 1, 0)))))))
set_option maxRecDepth 20000 in
set_option maxHeartbeats 4000000 in
theorem te_375_32_ok : ∀ pc, e_EOq eft cls elay eI n_375 pc (te_375_32 pc) :=
  (e_Tok2
  (e_Tok2
  (e_Tok2
  (e_Tok2
  (e_Tok2
  (e_Lok (ps_iconst_1 (x_dk dn_375_0_1_ok 7 rfl)))
  (e_Lok (e_st (I := eI) (er_goto (off := 4) (tg := 97) (x_dk dn_375_0_1_ok 8 rfl) (by decide)) nx_goto)))
  (e_Tok2
  (e_Lok (ps_iconst_0 (x_dk dn_375_0_1_ok 9 rfl)))
  (e_Lok (e_rt (I := eI) (k := 1) ⟨(x_dk dn_375_0_1_ok 10 rfl), rfl⟩))))
  (e_Tok2
  (e_Tok2
  (e_Lok (ld_iload_n_1 (x_dk dn_375_0_1_ok 11 rfl)))
  (e_Lok (ld_iload_n_2 (x_dk dn_375_0_1_ok 12 rfl))))
  (e_Tok2
  (e_Lok (e_st (I := eI) (er_icmpge (off := 7) (tg := 107) (x_dk dn_375_0_1_ok 13 rfl) (by decide)) nx_if2))
  (e_Lok (ps_iconst_1 (x_dk dn_375_0_1_ok 14 rfl))))))
  (e_Tok2
  (e_Tok2
  (e_Tok2
  (e_Lok (e_st (I := eI) (er_goto (off := 4) (tg := 108) (x_dk dn_375_0_1_ok 15 rfl) (by decide)) nx_goto))
  (e_Lok (ps_iconst_0 (x_dk dn_375_0_1_ok 16 rfl))))
  (e_Tok2
  (e_Lok (e_rt (I := eI) (k := 1) ⟨(x_dk dn_375_0_1_ok 17 rfl), rfl⟩))
  (e_Lok (ld_iload_n_1 (x_dk dn_375_0_1_ok 18 rfl)))))
  (e_Tok2
  (e_Tok2
  (e_Lok (ld_iload_n_2 (x_dk dn_375_0_1_ok 19 rfl)))
  (e_Lok (e_st (I := eI) (er_icmpgt (off := 7) (tg := 118) (x_dk dn_375_0_1_ok 20 rfl) (by decide)) nx_if2)))
  (e_Tok2
  (e_Lok (ps_iconst_1 (x_dk dn_375_0_1_ok 21 rfl)))
  (e_Lok (e_st (I := eI) (er_goto (off := 4) (tg := 119) (x_dk dn_375_0_1_ok 22 rfl) (by decide)) nx_goto))))))
  (e_Tok2
  (e_Tok2
  (e_Tok2
  (e_Tok2
  (e_Lok (ps_iconst_0 (x_dk dn_375_0_1_ok 23 rfl)))
  (e_Lok (e_rt (I := eI) (k := 1) ⟨(x_dk dn_375_0_1_ok 24 rfl), rfl⟩)))
  (e_Tok2
  (e_Lok (ld_iload_n_1 (x_dk dn_375_0_2_ok 0 rfl)))
  (e_Lok (ld_iload_n_2 (x_dk dn_375_0_2_ok 1 rfl)))))
  (e_Tok2
  (e_Tok2
  (e_Lok (e_st (I := eI) (er_icmple (off := 7) (tg := 129) (x_dk dn_375_0_2_ok 2 rfl) (by decide)) nx_if2))
  (e_Lok (ps_iconst_1 (x_dk dn_375_0_2_ok 3 rfl))))
  (e_Tok2
  (e_Lok (e_st (I := eI) (er_goto (off := 4) (tg := 130) (x_dk dn_375_0_2_ok 4 rfl) (by decide)) nx_goto))
  (e_Lok (ps_iconst_0 (x_dk dn_375_0_2_ok 5 rfl))))))
  (e_Tok2
  (e_Tok2
  (e_Tok2
  (e_Lok (e_rt (I := eI) (k := 1) ⟨(x_dk dn_375_0_2_ok 6 rfl), rfl⟩))
  (e_Lok (ld_iload_n_1 (x_dk dn_375_0_2_ok 7 rfl))))
  (e_Tok2
  (e_Lok (ld_iload_n_2 (x_dk dn_375_0_2_ok 8 rfl)))
  (e_Lok (e_st (I := eI) (er_icmplt (off := 7) (tg := 140) (x_dk dn_375_0_2_ok 9 rfl) (by decide)) nx_if2))))
  (e_Tok2
  (e_Tok2
  (e_Lok (ps_iconst_1 (x_dk dn_375_0_2_ok 10 rfl)))
  (e_Lok (e_st (I := eI) (er_goto (off := 4) (tg := 141) (x_dk dn_375_0_2_ok 11 rfl) (by decide)) nx_goto)))
  (e_Tok2
  (e_Lok (ps_iconst_0 (x_dk dn_375_0_2_ok 12 rfl)))
  (e_Lok (e_rt (I := eI) (k := 1) ⟨(x_dk dn_375_0_2_ok 13 rfl), rfl⟩)))))))
def te_375 : Nat → eE := (e_T 89 te_375_0 te_375_32)
theorem te_375_ok : ∀ pc, e_EOq eft cls elay eI n_375 pc (te_375 pc) := (e_Tok2 (te_375_0_ok) (te_375_32_ok))
theorem ho_376 : (xm_y n_376).cls = "RobotCellHouseModel" := rfl
def dn_376_0_0 : List (Nat × Instr × Nat) := [(0, .iload_n 1, 1), (1, .tableswitch 398 31 51 #[99, 124, 131, 194, 398, 398, 398, 247, 398, 222, 231, 398, 398, 398, 254, 276, 298, 317, 323, 323, 383], 99), (100, .aload_n 0, 1), (101, .getfield 8, 3), (104, .sipush 20932, 3), (107, .bipush 32, 2), (109, .aload_n 0, 1), (110, .getfield 663, 3), (113, .imul, 1), (114, .iadd, 1), (115, .iload_n 2, 1), (116, .iadd, 1), (117, .aload_n 0, 1), (118, .invokevirtual 714, 3), (121, .iastore, 1), (122, .goto 297, 3), (125, .aload_n 0, 1), (126, .iload_n 2, 1), (127, .iload_n 3, 1), (128, .invokevirtual 720, 3), (131, .return_, 1), (132, .aload_n 0, 1), (133, .invokevirtual 714, 3), (136, .istore 4, 2), (138, .iload 4, 2)]
set_option maxRecDepth 20000 in
theorem dn_376_0_0_ok : dn_376_0_0.all (fun q => decide (decode (xm_b n_376) q.1 = .ok (q.2.1, q.2.2))) = true := xa_g_ok (by decide +kernel)
def dn_376_0_1 : List (Nat × Instr × Nat) := [(140, .ifCond .le 279, 3), (143, .aload_n 0, 1), (144, .getfield 8, 3), (147, .aload_n 0, 1), (148, .getfield 651, 3), (151, .iconst 3, 1), (152, .iastore, 1), (153, .aload_n 0, 1), (154, .getfield 8, 3), (157, .aload_n 0, 1), (158, .getfield 651, 3), (161, .iconst 4, 1), (162, .iadd, 1), (163, .iload 4, 2), (165, .sipush 6000, 3), (168, .if_icmp .le 9, 3), (171, .sipush 6001, 3), (174, .goto 12, 3), (177, .aload_n 0, 1), (178, .getfield 8, 3), (181, .iconst 0, 1), (182, .iaload, 1), (183, .iload 4, 2), (185, .iadd, 1), (186, .iastore, 1)]
set_option maxRecDepth 20000 in
theorem dn_376_0_1_ok : dn_376_0_1.all (fun q => decide (decode (xm_b n_376) q.1 = .ok (q.2.1, q.2.2))) = true := xa_g_ok (by decide +kernel)
def dn_376_0_2 : List (Nat × Instr × Nat) := [(187, .aload_n 0, 1), (188, .iconst 1, 1), (189, .putfield 669, 3), (192, .goto 227, 3), (195, .aload_n 0, 1), (196, .invokevirtual 714, 3), (199, .ifCond .ne 220, 3), (202, .aload_n 0, 1), (203, .getfield 8, 3), (206, .aload_n 0, 1), (207, .getfield 651, 3), (210, .iconst 4, 1), (211, .iastore, 1), (212, .aload_n 0, 1), (213, .iconst 1, 1), (214, .putfield 669, 3), (217, .aload_n 0, 1), (218, .iload_n 2, 1), (219, .invokevirtual 678, 3), (222, .return_, 1), (223, .aload_n 0, 1), (224, .aload_n 0, 1), (225, .invokevirtual 714, 3), (228, .invokevirtual 672, 3), (231, .return_, 1)]
set_option maxRecDepth 20000 in
theorem dn_376_0_2_ok : dn_376_0_2.all (fun q => decide (decode (xm_b n_376) q.1 = .ok (q.2.1, q.2.2))) = true := xa_g_ok (by decide +kernel)
def dn_376_0_3 : List (Nat × Instr × Nat) := [(232, .aload_n 0, 1), (233, .iconst 1, 1), (234, .aload_n 0, 1), (235, .getfield 660, 3), (238, .aload_n 0, 1), (239, .invokevirtual 714, 3), (242, .invokevirtual 693, 3), (245, .goto 174, 3), (248, .aload_n 0, 1), (249, .iload_n 2, 1), (250, .iconst 0, 1), (251, .invokevirtual 681, 3), (254, .return_, 1), (255, .aload_n 0, 1), (256, .aload_n 0, 1), (257, .getfield 177, 3), (260, .sipush 10000, 3), (263, .aload_n 0, 1), (264, .getfield 663, 3), (267, .imul, 1), (268, .iload_n 3, 1), (269, .iadd, 1), (270, .iaload, 1), (271, .iconst 2, 1), (272, .iconst 0, 1)]
set_option maxRecDepth 20000 in
theorem dn_376_0_3_ok : dn_376_0_3.all (fun q => decide (decode (xm_b n_376) q.1 = .ok (q.2.1, q.2.2))) = true := xa_g_ok (by decide +kernel)
def dn_376_1_0 : List (Nat × Instr × Nat) := [(273, .invokevirtual 684, 3), (276, .return_, 1), (277, .aload_n 0, 1), (278, .aload_n 0, 1), (279, .getfield 177, 3), (282, .sipush 10000, 3), (285, .aload_n 0, 1), (286, .getfield 663, 3), (289, .imul, 1), (290, .iload_n 3, 1), (291, .iadd, 1), (292, .iaload, 1), (293, .iconst 3, 1), (294, .iload_n 2, 1), (295, .invokevirtual 684, 3), (298, .return_, 1), (299, .aload_n 0, 1), (300, .aload_n 0, 1), (301, .invokevirtual 714, 3), (304, .ifCond .ne 7, 3), (307, .iload_n 2, 1), (308, .goto 6, 3), (311, .iload_n 3, 1), (312, .iconst 1, 1), (313, .iadd, 1)]
set_option maxRecDepth 20000 in
theorem dn_376_1_0_ok : dn_376_1_0.all (fun q => decide (decode (xm_b n_376) q.1 = .ok (q.2.1, q.2.2))) = true := xa_g_ok (by decide +kernel)
def dn_376_1_1 : List (Nat × Instr × Nat) := [(314, .invokevirtual 678, 3), (317, .return_, 1), (318, .aload_n 0, 1), (319, .iload_n 2, 1), (320, .invokevirtual 678, 3), (323, .return_, 1), (324, .sipush 900, 3), (327, .aload_n 0, 1), (328, .getfield 663, 3), (331, .imul, 1), (332, .iload_n 2, 1), (333, .iadd, 1), (334, .istore 5, 2), (336, .aload_n 0, 1), (337, .getfield 186, 3), (340, .iload 5, 2), (342, .iaload, 1), (343, .ifCond .lt 9, 3), (346, .aload_n 0, 1), (347, .iconst 0, 1), (348, .iconst 0, 1), (349, .invokevirtual 690, 3), (352, .aload_n 0, 1), (353, .aload_n 0, 1), (354, .getfield 186, 3)]
set_option maxRecDepth 20000 in
theorem dn_376_1_1_ok : dn_376_1_1.all (fun q => decide (decode (xm_b n_376) q.1 = .ok (q.2.1, q.2.2))) = true := xa_g_ok (by decide +kernel)
def dn_376_1_2 : List (Nat × Instr × Nat) := [(357, .iload 5, 2), (359, .iaload, 1), (360, .ifCond .lt 13, 3), (363, .aload_n 0, 1), (364, .getfield 186, 3), (367, .iload 5, 2), (369, .iaload, 1), (370, .goto 10, 3), (373, .aload_n 0, 1), (374, .getfield 189, 3), (377, .iload 5, 2), (379, .iaload, 1), (380, .invokevirtual 678, 3), (383, .return_, 1), (384, .aload_n 0, 1), (385, .sipush 900, 3), (388, .aload_n 0, 1), (389, .getfield 663, 3), (392, .imul, 1), (393, .iload_n 2, 1), (394, .iadd, 1), (395, .invokevirtual 723, 3), (398, .return_, 1), (399, .aload_n 0, 1), (400, .iload_n 1, 1)]
set_option maxRecDepth 20000 in
theorem dn_376_1_2_ok : dn_376_1_2.all (fun q => decide (decode (xm_b n_376) q.1 = .ok (q.2.1, q.2.2))) = true := xa_g_ok (by decide +kernel)
def dn_376_1_3 : List (Nat × Instr × Nat) := [(401, .iload_n 2, 1), (402, .invokevirtual 726, 3), (405, .istore 6, 2), (407, .iload 6, 2), (409, .ifCond .eq 10, 3), (412, .aload_n 0, 1), (413, .iload 6, 2), (415, .invokevirtual 672, 3), (418, .return_, 1), (419, .aload_n 0, 1), (420, .iload_n 3, 1), (421, .iconst 1, 1), (422, .iadd, 1), (423, .invokevirtual 678, 3), (426, .return_, 1)]
set_option maxRecDepth 20000 in
theorem dn_376_1_3_ok : dn_376_1_3.all (fun q => decide (decode (xm_b n_376) q.1 = .ok (q.2.1, q.2.2))) = true := xa_g_ok (by decide +kernel)
def te_376_0 : Nat → eE := (e_T 115 (e_T 104 (e_T 1 (e_T 0 (e_L 0 (0, ei_load 1 0 1, 0, 0)) (e_L 1 (0, ei_sw [((-2147483648), 30, 399), (31, 31, 100), (32, 32, 125), (33, 33, 132), (34, 34, 195), (35, 35, 399), (36, 36, 399), (37, 37, 399), (38, 38, 248), (39, 39, 399), (40, 40, 223), (41, 41, 232), (42, 42, 399), (43, 43, 399), (44, 44, 399), (45, 45, 255), (46, 46, 277), (47, 47, 299), (48, 48, 318), (49, 49, 324), (50, 50, 324), (51, 51, 384), (52, 2147483647, 399)], 0, 0))) (e_T 100 (e_L 100 (0, ei_load 0 2 101, 0, 0)) (e_T 101 (e_L 101 (0, ei_getf eft elay 12 0 104, 0, 0)) (e_L 104 (0, ei_push (0, 20932) 107, 0, 0))))) (e_T 110 (e_T 107 (e_L 107 (0, ei_push (0, 32) 109, 0, 0)) (e_T 109 (e_L 109 (0, ei_load 0 2 110, 0, 0)) (e_L 110 (0, ei_getf eft elay 12 98 113, 0, 0)))) (e_T 113 (e_L 113 (0, ei_bin eF_mul 114, 0, 0)) (e_T 114 (e_L 114 (0, ei_bin eF_add 115, 0, 0)) (e_L 115 (0, ei_load 2 0 116, 0, 0)))))) (e_T 125 (e_T 118 (e_T 116 (e_L 116 (0, ei_bin eF_add 117, 0, 0)) (e_T 117 (e_L 117 (0, ei_load 0 2 118, 0, 0)) (e_L 118 (2, e_nof, 364, 1)))) (e_T 121 (e_L 121 (0, ei_ast elay false 122, 0, 0)) (e_T 122 (e_L 122 (0, ei_goto 419, 0, 0)) (e_L 125 (0, ei_load 0 2 126, 0, 0))))) (e_T 128 (e_T 126 (e_L 126 (0, ei_load 2 0 127, 0, 0)) (e_T 127 (e_L 127 (0, ei_load 3 0 128, 0, 0)) (e_L 128 (2, e_nof, 380, 3)))) (e_T 131 (e_L 131 (1, e_nof, 0, 0)) (e_T 132 (e_L 132 (0, ei_load 0 2 133, 0, 0)) (e_L 133 (2, e_nof, 364, 1)))))))
set_option maxRecDepth 20000 in
set_option maxHeartbeats 4000000 in
theorem te_376_0_ok : ∀ pc, e_EOq eft cls elay eI n_376 pc (te_376_0 pc) :=
  (e_Tok2
  (e_Tok2
  (e_Tok2
  (e_Tok2
  (e_Lok (ld_iload_n_1 (x_dk dn_376_0_0_ok 0 rfl)))
  (e_Lok (e_st (I := eI) (er_tsw (dflt := 398) (lo := 31) (hi := 51) (offs := #[99, 124, 131, 194, 398, 398, 398, 247, 398, 222, 231, 398, 398, 398, 254, 276, 298, 317, 323, 323, 383]) (len := 99) (n := 21) (x_dk dn_376_0_0_ok 1 rfl) (by decide) (by decide +kernel)) nx_sw)))
  (e_Tok2
  (e_Lok (ld_aload_n_0 (x_dk dn_376_0_0_ok 2 rfl)))
  (e_Tok2
  (e_Lok (lk_12_8g ho_376 (x_dk dn_376_0_0_ok 3 rfl)))
  (e_Lok (ps_sipush_20932 (x_dk dn_376_0_0_ok 4 rfl))))))
  (e_Tok2
  (e_Tok2
  (e_Lok (ps_bipush_32 (x_dk dn_376_0_0_ok 5 rfl)))
  (e_Tok2
  (e_Lok (ld_aload_n_0 (x_dk dn_376_0_0_ok 6 rfl)))
  (e_Lok (lk_12_663g ho_376 (x_dk dn_376_0_0_ok 7 rfl)))))
  (e_Tok2
  (e_Lok (sm_imul (x_dk dn_376_0_0_ok 8 rfl)))
  (e_Tok2
  (e_Lok (sm_iadd (x_dk dn_376_0_0_ok 9 rfl)))
  (e_Lok (ld_iload_n_2 (x_dk dn_376_0_0_ok 10 rfl)))))))
  (e_Tok2
  (e_Tok2
  (e_Tok2
  (e_Lok (sm_iadd (x_dk dn_376_0_0_ok 11 rfl)))
  (e_Tok2
  (e_Lok (ld_aload_n_0 (x_dk dn_376_0_0_ok 12 rfl)))
  (e_Lok (lk_12_714 ho_376 (x_dk dn_376_0_0_ok 13 rfl)))))
  (e_Tok2
  (e_Lok (sm_iastore (x_dk dn_376_0_0_ok 14 rfl)))
  (e_Tok2
  (e_Lok (e_st (I := eI) (er_goto (off := 297) (tg := 419) (x_dk dn_376_0_0_ok 15 rfl) (by decide)) nx_goto))
  (e_Lok (ld_aload_n_0 (x_dk dn_376_0_0_ok 16 rfl))))))
  (e_Tok2
  (e_Tok2
  (e_Lok (ld_iload_n_2 (x_dk dn_376_0_0_ok 17 rfl)))
  (e_Tok2
  (e_Lok (ld_iload_n_3 (x_dk dn_376_0_0_ok 18 rfl)))
  (e_Lok (lk_12_720 ho_376 (x_dk dn_376_0_0_ok 19 rfl)))))
  (e_Tok2
  (e_Lok (e_rt (I := eI) (k := 0) ⟨(x_dk dn_376_0_0_ok 20 rfl), rfl⟩))
  (e_Tok2
  (e_Lok (ld_aload_n_0 (x_dk dn_376_0_0_ok 21 rfl)))
  (e_Lok (lk_12_714 ho_376 (x_dk dn_376_0_0_ok 22 rfl))))))))
def te_376_23 : Nat → eE := (e_T 157 (e_T 147 (e_T 140 (e_T 136 (e_L 136 (0, ei_stor 4 0 138, 0, 0)) (e_T 138 (e_L 138 (0, ei_load 4 0 140, 0, 0)) (e_L 140 (0, ei_if1 5 419 143, 0, 0)))) (e_T 143 (e_L 143 (0, ei_load 0 2 144, 0, 0)) (e_T 144 (e_L 144 (0, ei_getf eft elay 12 0 147, 0, 0)) (e_L 147 (0, ei_load 0 2 148, 0, 0))))) (e_T 152 (e_T 148 (e_L 148 (0, ei_getf eft elay 12 97 151, 0, 0)) (e_T 151 (e_L 151 (0, ei_push (0, 3) 152, 0, 0)) (e_L 152 (0, ei_ast elay false 153, 0, 0)))) (e_T 153 (e_L 153 (0, ei_load 0 2 154, 0, 0)) (e_T 154 (e_L 154 (0, ei_getf eft elay 12 0 157, 0, 0)) (e_L 157 (0, ei_load 0 2 158, 0, 0)))))) (e_T 168 (e_T 162 (e_T 158 (e_L 158 (0, ei_getf eft elay 12 97 161, 0, 0)) (e_T 161 (e_L 161 (0, ei_push (0, 4) 162, 0, 0)) (e_L 162 (0, ei_bin eF_add 163, 0, 0)))) (e_T 163 (e_L 163 (0, ei_load 4 0 165, 0, 0)) (e_T 165 (e_L 165 (0, ei_push (0, 6000) 168, 0, 0)) (e_L 168 (0, ei_if2 5 177 171, 0, 0))))) (e_T 177 (e_T 171 (e_L 171 (0, ei_push (0, 6001) 174, 0, 0)) (e_T 174 (e_L 174 (0, ei_goto 186, 0, 0)) (e_L 177 (0, ei_load 0 2 178, 0, 0)))) (e_T 178 (e_L 178 (0, ei_getf eft elay 12 0 181, 0, 0)) (e_T 181 (e_L 181 (0, ei_push (0, 0) 182, 0, 0)) (e_L 182 (0, ei_ald elay false 183, 0, 0)))))))
set_option maxRecDepth 20000 in
set_option maxHeartbeats 4000000 in
theorem te_376_23_ok : ∀ pc, e_EOq eft cls elay eI n_376 pc (te_376_23 pc) :=
  (e_Tok2
  (e_Tok2
  (e_Tok2
  (e_Tok2
  (e_Lok (e_st (I := eI) (er_istore (i := 4) (x_dk dn_376_0_0_ok 23 rfl) (by decide +kernel)) nx_stor))
  (e_Tok2
  (e_Lok (ld_iload_4 (x_dk dn_376_0_0_ok 24 rfl)))
  (e_Lok (e_st (I := eI) (er_ifle (off := 279) (tg := 419) (x_dk dn_376_0_1_ok 0 rfl) (by decide)) nx_if1))))
  (e_Tok2
  (e_Lok (ld_aload_n_0 (x_dk dn_376_0_1_ok 1 rfl)))
  (e_Tok2
  (e_Lok (lk_12_8g ho_376 (x_dk dn_376_0_1_ok 2 rfl)))
  (e_Lok (ld_aload_n_0 (x_dk dn_376_0_1_ok 3 rfl))))))
  (e_Tok2
  (e_Tok2
  (e_Lok (lk_12_651g ho_376 (x_dk dn_376_0_1_ok 4 rfl)))
  (e_Tok2
  (e_Lok (ps_iconst_3 (x_dk dn_376_0_1_ok 5 rfl)))
  (e_Lok (sm_iastore (x_dk dn_376_0_1_ok 6 rfl)))))
  (e_Tok2
  (e_Lok (ld_aload_n_0 (x_dk dn_376_0_1_ok 7 rfl)))
  (e_Tok2
  (e_Lok (lk_12_8g ho_376 (x_dk dn_376_0_1_ok 8 rfl)))
  (e_Lok (ld_aload_n_0 (x_dk dn_376_0_1_ok 9 rfl)))))))
  (e_Tok2
  (e_Tok2
  (e_Tok2
  (e_Lok (lk_12_651g ho_376 (x_dk dn_376_0_1_ok 10 rfl)))
  (e_Tok2
  (e_Lok (ps_iconst_4 (x_dk dn_376_0_1_ok 11 rfl)))
  (e_Lok (sm_iadd (x_dk dn_376_0_1_ok 12 rfl)))))
  (e_Tok2
  (e_Lok (ld_iload_4 (x_dk dn_376_0_1_ok 13 rfl)))
  (e_Tok2
  (e_Lok (ps_sipush_6000 (x_dk dn_376_0_1_ok 14 rfl)))
  (e_Lok (e_st (I := eI) (er_icmple (off := 9) (tg := 177) (x_dk dn_376_0_1_ok 15 rfl) (by decide)) nx_if2)))))
  (e_Tok2
  (e_Tok2
  (e_Lok (ps_sipush_6001 (x_dk dn_376_0_1_ok 16 rfl)))
  (e_Tok2
  (e_Lok (e_st (I := eI) (er_goto (off := 12) (tg := 186) (x_dk dn_376_0_1_ok 17 rfl) (by decide)) nx_goto))
  (e_Lok (ld_aload_n_0 (x_dk dn_376_0_1_ok 18 rfl)))))
  (e_Tok2
  (e_Lok (lk_12_8g ho_376 (x_dk dn_376_0_1_ok 19 rfl)))
  (e_Tok2
  (e_Lok (ps_iconst_0 (x_dk dn_376_0_1_ok 20 rfl)))
  (e_Lok (sm_iaload (x_dk dn_376_0_1_ok 21 rfl))))))))
def te_376_47 : Nat → eE := (e_T 203 (e_T 189 (e_T 186 (e_T 183 (e_L 183 (0, ei_load 4 0 185, 0, 0)) (e_T 185 (e_L 185 (0, ei_bin eF_add 186, 0, 0)) (e_L 186 (0, ei_ast elay false 187, 0, 0)))) (e_T 187 (e_L 187 (0, ei_load 0 2 188, 0, 0)) (e_T 188 (e_L 188 (0, ei_push (0, 1) 189, 0, 0)) (e_L 189 (0, ei_putf eft elay 12 100 1 192, 0, 0))))) (e_T 196 (e_T 192 (e_L 192 (0, ei_goto 419, 0, 0)) (e_T 195 (e_L 195 (0, ei_load 0 2 196, 0, 0)) (e_L 196 (2, e_nof, 364, 1)))) (e_T 199 (e_L 199 (0, ei_if1 1 419 202, 0, 0)) (e_T 202 (e_L 202 (0, ei_load 0 2 203, 0, 0)) (e_L 203 (0, ei_getf eft elay 12 0 206, 0, 0)))))) (e_T 213 (e_T 210 (e_T 206 (e_L 206 (0, ei_load 0 2 207, 0, 0)) (e_T 207 (e_L 207 (0, ei_getf eft elay 12 97 210, 0, 0)) (e_L 210 (0, ei_push (0, 4) 211, 0, 0)))) (e_T 211 (e_L 211 (0, ei_ast elay false 212, 0, 0)) (e_T 212 (e_L 212 (0, ei_load 0 2 213, 0, 0)) (e_L 213 (0, ei_push (0, 1) 214, 0, 0))))) (e_T 218 (e_T 214 (e_L 214 (0, ei_putf eft elay 12 100 1 217, 0, 0)) (e_T 217 (e_L 217 (0, ei_load 0 2 218, 0, 0)) (e_L 218 (0, ei_load 2 0 219, 0, 0)))) (e_T 219 (e_L 219 (2, e_nof, 365, 2)) (e_T 222 (e_L 222 (1, e_nof, 0, 0)) (e_L 223 (0, ei_load 0 2 224, 0, 0)))))))
set_option maxRecDepth 20000 in
set_option maxHeartbeats 4000000 in
theorem te_376_47_ok : ∀ pc, e_EOq eft cls elay eI n_376 pc (te_376_47 pc) :=
  (e_Tok2
  (e_Tok2
  (e_Tok2
  (e_Tok2
  (e_Lok (ld_iload_4 (x_dk dn_376_0_1_ok 22 rfl)))
  (e_Tok2
  (e_Lok (sm_iadd (x_dk dn_376_0_1_ok 23 rfl)))
  (e_Lok (sm_iastore (x_dk dn_376_0_1_ok 24 rfl)))))
  (e_Tok2
  (e_Lok (ld_aload_n_0 (x_dk dn_376_0_2_ok 0 rfl)))
  (e_Tok2
  (e_Lok (ps_iconst_1 (x_dk dn_376_0_2_ok 1 rfl)))
  (e_Lok (lk_12_669p ho_376 (x_dk dn_376_0_2_ok 2 rfl))))))
  (e_Tok2
  (e_Tok2
  (e_Lok (e_st (I := eI) (er_goto (off := 227) (tg := 419) (x_dk dn_376_0_2_ok 3 rfl) (by decide)) nx_goto))
  (e_Tok2
  (e_Lok (ld_aload_n_0 (x_dk dn_376_0_2_ok 4 rfl)))
  (e_Lok (lk_12_714 ho_376 (x_dk dn_376_0_2_ok 5 rfl)))))
  (e_Tok2
  (e_Lok (e_st (I := eI) (er_ifne (off := 220) (tg := 419) (x_dk dn_376_0_2_ok 6 rfl) (by decide)) nx_if1))
  (e_Tok2
  (e_Lok (ld_aload_n_0 (x_dk dn_376_0_2_ok 7 rfl)))
  (e_Lok (lk_12_8g ho_376 (x_dk dn_376_0_2_ok 8 rfl)))))))
  (e_Tok2
  (e_Tok2
  (e_Tok2
  (e_Lok (ld_aload_n_0 (x_dk dn_376_0_2_ok 9 rfl)))
  (e_Tok2
  (e_Lok (lk_12_651g ho_376 (x_dk dn_376_0_2_ok 10 rfl)))
  (e_Lok (ps_iconst_4 (x_dk dn_376_0_2_ok 11 rfl)))))
  (e_Tok2
  (e_Lok (sm_iastore (x_dk dn_376_0_2_ok 12 rfl)))
  (e_Tok2
  (e_Lok (ld_aload_n_0 (x_dk dn_376_0_2_ok 13 rfl)))
  (e_Lok (ps_iconst_1 (x_dk dn_376_0_2_ok 14 rfl))))))
  (e_Tok2
  (e_Tok2
  (e_Lok (lk_12_669p ho_376 (x_dk dn_376_0_2_ok 15 rfl)))
  (e_Tok2
  (e_Lok (ld_aload_n_0 (x_dk dn_376_0_2_ok 16 rfl)))
  (e_Lok (ld_iload_n_2 (x_dk dn_376_0_2_ok 17 rfl)))))
  (e_Tok2
  (e_Lok (lk_12_678 ho_376 (x_dk dn_376_0_2_ok 18 rfl)))
  (e_Tok2
  (e_Lok (e_rt (I := eI) (k := 0) ⟨(x_dk dn_376_0_2_ok 19 rfl), rfl⟩))
  (e_Lok (ld_aload_n_0 (x_dk dn_376_0_2_ok 20 rfl))))))))
def te_376_71 : Nat → eE := (e_T 245 (e_T 233 (e_T 228 (e_T 224 (e_L 224 (0, ei_load 0 2 225, 0, 0)) (e_T 225 (e_L 225 (2, e_nof, 364, 1)) (e_L 228 (2, e_nof, 369, 2)))) (e_T 231 (e_L 231 (1, e_nof, 0, 0)) (e_T 232 (e_L 232 (0, ei_load 0 2 233, 0, 0)) (e_L 233 (0, ei_push (0, 1) 234, 0, 0))))) (e_T 238 (e_T 234 (e_L 234 (0, ei_load 0 2 235, 0, 0)) (e_T 235 (e_L 235 (0, ei_getf eft elay 12 96 238, 0, 0)) (e_L 238 (0, ei_load 0 2 239, 0, 0)))) (e_T 239 (e_L 239 (2, e_nof, 364, 1)) (e_T 242 (e_L 242 (2, e_nof, 319, 4)) (e_L 245 (0, ei_goto 419, 0, 0)))))) (e_T 255 (e_T 250 (e_T 248 (e_L 248 (0, ei_load 0 2 249, 0, 0)) (e_T 249 (e_L 249 (0, ei_load 2 0 250, 0, 0)) (e_L 250 (0, ei_push (0, 0) 251, 0, 0)))) (e_T 251 (e_L 251 (2, e_nof, 367, 3)) (e_T 254 (e_L 254 (1, e_nof, 0, 0)) (e_L 255 (0, ei_load 0 2 256, 0, 0))))) (e_T 260 (e_T 256 (e_L 256 (0, ei_load 0 2 257, 0, 0)) (e_T 257 (e_L 257 (0, ei_getf eft elay 12 67 260, 0, 0)) (e_L 260 (0, ei_push (0, 10000) 263, 0, 0)))) (e_T 263 (e_L 263 (0, ei_load 0 2 264, 0, 0)) (e_T 264 (e_L 264 (0, ei_getf eft elay 12 98 267, 0, 0)) (e_L 267 (0, ei_bin eF_mul 268, 0, 0)))))))
set_option maxRecDepth 20000 in
set_option maxHeartbeats 4000000 in
theorem te_376_71_ok : ∀ pc, e_EOq eft cls elay eI n_376 pc (te_376_71 pc) :=
  (e_Tok2
  (e_Tok2
  (e_Tok2
  (e_Tok2
  (e_Lok (ld_aload_n_0 (x_dk dn_376_0_2_ok 21 rfl)))
  (e_Tok2
  (e_Lok (lk_12_714 ho_376 (x_dk dn_376_0_2_ok 22 rfl)))
  (e_Lok (lk_12_672 ho_376 (x_dk dn_376_0_2_ok 23 rfl)))))
  (e_Tok2
  (e_Lok (e_rt (I := eI) (k := 0) ⟨(x_dk dn_376_0_2_ok 24 rfl), rfl⟩))
  (e_Tok2
  (e_Lok (ld_aload_n_0 (x_dk dn_376_0_3_ok 0 rfl)))
  (e_Lok (ps_iconst_1 (x_dk dn_376_0_3_ok 1 rfl))))))
  (e_Tok2
  (e_Tok2
  (e_Lok (ld_aload_n_0 (x_dk dn_376_0_3_ok 2 rfl)))
  (e_Tok2
  (e_Lok (lk_12_660g ho_376 (x_dk dn_376_0_3_ok 3 rfl)))
  (e_Lok (ld_aload_n_0 (x_dk dn_376_0_3_ok 4 rfl)))))
  (e_Tok2
  (e_Lok (lk_12_714 ho_376 (x_dk dn_376_0_3_ok 5 rfl)))
  (e_Tok2
  (e_Lok (lk_12_693 ho_376 (x_dk dn_376_0_3_ok 6 rfl)))
  (e_Lok (e_st (I := eI) (er_goto (off := 174) (tg := 419) (x_dk dn_376_0_3_ok 7 rfl) (by decide)) nx_goto))))))
  (e_Tok2
  (e_Tok2
  (e_Tok2
  (e_Lok (ld_aload_n_0 (x_dk dn_376_0_3_ok 8 rfl)))
  (e_Tok2
  (e_Lok (ld_iload_n_2 (x_dk dn_376_0_3_ok 9 rfl)))
  (e_Lok (ps_iconst_0 (x_dk dn_376_0_3_ok 10 rfl)))))
  (e_Tok2
  (e_Lok (lk_12_681 ho_376 (x_dk dn_376_0_3_ok 11 rfl)))
  (e_Tok2
  (e_Lok (e_rt (I := eI) (k := 0) ⟨(x_dk dn_376_0_3_ok 12 rfl), rfl⟩))
  (e_Lok (ld_aload_n_0 (x_dk dn_376_0_3_ok 13 rfl))))))
  (e_Tok2
  (e_Tok2
  (e_Lok (ld_aload_n_0 (x_dk dn_376_0_3_ok 14 rfl)))
  (e_Tok2
  (e_Lok (lk_12_177g ho_376 (x_dk dn_376_0_3_ok 15 rfl)))
  (e_Lok (ps_sipush_10000 (x_dk dn_376_0_3_ok 16 rfl)))))
  (e_Tok2
  (e_Lok (ld_aload_n_0 (x_dk dn_376_0_3_ok 17 rfl)))
  (e_Tok2
  (e_Lok (lk_12_663g ho_376 (x_dk dn_376_0_3_ok 18 rfl)))
  (e_Lok (sm_imul (x_dk dn_376_0_3_ok 19 rfl))))))))
def te_376_95 : Nat → eE := (e_T 282 (e_T 272 (e_T 269 (e_T 268 (e_L 268 (0, ei_load 3 0 269, 0, 0)) (e_L 269 (0, ei_bin eF_add 270, 0, 0))) (e_T 270 (e_L 270 (0, ei_ald elay false 271, 0, 0)) (e_T 271 (e_L 271 (0, ei_push (0, 2) 272, 0, 0)) (e_L 272 (0, ei_push (0, 0) 273, 0, 0))))) (e_T 277 (e_T 273 (e_L 273 (2, e_nof, 371, 4)) (e_T 276 (e_L 276 (1, e_nof, 0, 0)) (e_L 277 (0, ei_load 0 2 278, 0, 0)))) (e_T 278 (e_L 278 (0, ei_load 0 2 279, 0, 0)) (e_T 279 (e_L 279 (0, ei_getf eft elay 12 67 282, 0, 0)) (e_L 282 (0, ei_push (0, 10000) 285, 0, 0)))))) (e_T 292 (e_T 289 (e_T 285 (e_L 285 (0, ei_load 0 2 286, 0, 0)) (e_T 286 (e_L 286 (0, ei_getf eft elay 12 98 289, 0, 0)) (e_L 289 (0, ei_bin eF_mul 290, 0, 0)))) (e_T 290 (e_L 290 (0, ei_load 3 0 291, 0, 0)) (e_T 291 (e_L 291 (0, ei_bin eF_add 292, 0, 0)) (e_L 292 (0, ei_ald elay false 293, 0, 0))))) (e_T 295 (e_T 293 (e_L 293 (0, ei_push (0, 3) 294, 0, 0)) (e_T 294 (e_L 294 (0, ei_load 2 0 295, 0, 0)) (e_L 295 (2, e_nof, 371, 4)))) (e_T 298 (e_L 298 (1, e_nof, 0, 0)) (e_T 299 (e_L 299 (0, ei_load 0 2 300, 0, 0)) (e_L 300 (0, ei_load 0 2 301, 0, 0)))))))
set_option maxRecDepth 20000 in
set_option maxHeartbeats 4000000 in
theorem te_376_95_ok : ∀ pc, e_EOq eft cls elay eI n_376 pc (te_376_95 pc) :=
  (e_Tok2
  (e_Tok2
  (e_Tok2
  (e_Tok2
  (e_Lok (ld_iload_n_3 (x_dk dn_376_0_3_ok 20 rfl)))
  (e_Lok (sm_iadd (x_dk dn_376_0_3_ok 21 rfl))))
  (e_Tok2
  (e_Lok (sm_iaload (x_dk dn_376_0_3_ok 22 rfl)))
  (e_Tok2
  (e_Lok (ps_iconst_2 (x_dk dn_376_0_3_ok 23 rfl)))
  (e_Lok (ps_iconst_0 (x_dk dn_376_0_3_ok 24 rfl))))))
  (e_Tok2
  (e_Tok2
  (e_Lok (lk_12_684 ho_376 (x_dk dn_376_1_0_ok 0 rfl)))
  (e_Tok2
  (e_Lok (e_rt (I := eI) (k := 0) ⟨(x_dk dn_376_1_0_ok 1 rfl), rfl⟩))
  (e_Lok (ld_aload_n_0 (x_dk dn_376_1_0_ok 2 rfl)))))
  (e_Tok2
  (e_Lok (ld_aload_n_0 (x_dk dn_376_1_0_ok 3 rfl)))
  (e_Tok2
  (e_Lok (lk_12_177g ho_376 (x_dk dn_376_1_0_ok 4 rfl)))
  (e_Lok (ps_sipush_10000 (x_dk dn_376_1_0_ok 5 rfl)))))))
  (e_Tok2
  (e_Tok2
  (e_Tok2
  (e_Lok (ld_aload_n_0 (x_dk dn_376_1_0_ok 6 rfl)))
  (e_Tok2
  (e_Lok (lk_12_663g ho_376 (x_dk dn_376_1_0_ok 7 rfl)))
  (e_Lok (sm_imul (x_dk dn_376_1_0_ok 8 rfl)))))
  (e_Tok2
  (e_Lok (ld_iload_n_3 (x_dk dn_376_1_0_ok 9 rfl)))
  (e_Tok2
  (e_Lok (sm_iadd (x_dk dn_376_1_0_ok 10 rfl)))
  (e_Lok (sm_iaload (x_dk dn_376_1_0_ok 11 rfl))))))
  (e_Tok2
  (e_Tok2
  (e_Lok (ps_iconst_3 (x_dk dn_376_1_0_ok 12 rfl)))
  (e_Tok2
  (e_Lok (ld_iload_n_2 (x_dk dn_376_1_0_ok 13 rfl)))
  (e_Lok (lk_12_684 ho_376 (x_dk dn_376_1_0_ok 14 rfl)))))
  (e_Tok2
  (e_Lok (e_rt (I := eI) (k := 0) ⟨(x_dk dn_376_1_0_ok 15 rfl), rfl⟩))
  (e_Tok2
  (e_Lok (ld_aload_n_0 (x_dk dn_376_1_0_ok 16 rfl)))
  (e_Lok (ld_aload_n_0 (x_dk dn_376_1_0_ok 17 rfl))))))))
def te_376_118 : Nat → eE := (e_T 320 (e_T 312 (e_T 307 (e_T 301 (e_L 301 (2, e_nof, 364, 1)) (e_T 304 (e_L 304 (0, ei_if1 1 311 307, 0, 0)) (e_L 307 (0, ei_load 2 0 308, 0, 0)))) (e_T 308 (e_L 308 (0, ei_goto 314, 0, 0)) (e_T 311 (e_L 311 (0, ei_load 3 0 312, 0, 0)) (e_L 312 (0, ei_push (0, 1) 313, 0, 0))))) (e_T 317 (e_T 313 (e_L 313 (0, ei_bin eF_add 314, 0, 0)) (e_T 314 (e_L 314 (2, e_nof, 365, 2)) (e_L 317 (1, e_nof, 0, 0)))) (e_T 318 (e_L 318 (0, ei_load 0 2 319, 0, 0)) (e_T 319 (e_L 319 (0, ei_load 2 0 320, 0, 0)) (e_L 320 (2, e_nof, 365, 2)))))) (e_T 332 (e_T 327 (e_T 323 (e_L 323 (1, e_nof, 0, 0)) (e_T 324 (e_L 324 (0, ei_push (0, 900) 327, 0, 0)) (e_L 327 (0, ei_load 0 2 328, 0, 0)))) (e_T 328 (e_L 328 (0, ei_getf eft elay 12 98 331, 0, 0)) (e_T 331 (e_L 331 (0, ei_bin eF_mul 332, 0, 0)) (e_L 332 (0, ei_load 2 0 333, 0, 0))))) (e_T 336 (e_T 333 (e_L 333 (0, ei_bin eF_add 334, 0, 0)) (e_T 334 (e_L 334 (0, ei_stor 5 0 336, 0, 0)) (e_L 336 (0, ei_load 0 2 337, 0, 0)))) (e_T 337 (e_L 337 (0, ei_getf eft elay 12 70 340, 0, 0)) (e_T 340 (e_L 340 (0, ei_load 5 0 342, 0, 0)) (e_L 342 (0, ei_ald elay false 343, 0, 0)))))))
set_option maxRecDepth 20000 in
set_option maxHeartbeats 4000000 in
theorem te_376_118_ok : ∀ pc, e_EOq eft cls elay eI n_376 pc (te_376_118 pc) :=
  (e_Tok2
  (e_Tok2
  (e_Tok2
  (e_Tok2
  (e_Lok (lk_12_714 ho_376 (x_dk dn_376_1_0_ok 18 rfl)))
  (e_Tok2
  (e_Lok (e_st (I := eI) (er_ifne (off := 7) (tg := 311) (x_dk dn_376_1_0_ok 19 rfl) (by decide)) nx_if1))
  (e_Lok (ld_iload_n_2 (x_dk dn_376_1_0_ok 20 rfl)))))
  (e_Tok2
  (e_Lok (e_st (I := eI) (er_goto (off := 6) (tg := 314) (x_dk dn_376_1_0_ok 21 rfl) (by decide)) nx_goto))
  (e_Tok2
  (e_Lok (ld_iload_n_3 (x_dk dn_376_1_0_ok 22 rfl)))
  (e_Lok (ps_iconst_1 (x_dk dn_376_1_0_ok 23 rfl))))))
  (e_Tok2
  (e_Tok2
  (e_Lok (sm_iadd (x_dk dn_376_1_0_ok 24 rfl)))
  (e_Tok2
  (e_Lok (lk_12_678 ho_376 (x_dk dn_376_1_1_ok 0 rfl)))
  (e_Lok (e_rt (I := eI) (k := 0) ⟨(x_dk dn_376_1_1_ok 1 rfl), rfl⟩))))
  (e_Tok2
  (e_Lok (ld_aload_n_0 (x_dk dn_376_1_1_ok 2 rfl)))
  (e_Tok2
  (e_Lok (ld_iload_n_2 (x_dk dn_376_1_1_ok 3 rfl)))
  (e_Lok (lk_12_678 ho_376 (x_dk dn_376_1_1_ok 4 rfl)))))))
  (e_Tok2
  (e_Tok2
  (e_Tok2
  (e_Lok (e_rt (I := eI) (k := 0) ⟨(x_dk dn_376_1_1_ok 5 rfl), rfl⟩))
  (e_Tok2
  (e_Lok (ps_sipush_900 (x_dk dn_376_1_1_ok 6 rfl)))
  (e_Lok (ld_aload_n_0 (x_dk dn_376_1_1_ok 7 rfl)))))
  (e_Tok2
  (e_Lok (lk_12_663g ho_376 (x_dk dn_376_1_1_ok 8 rfl)))
  (e_Tok2
  (e_Lok (sm_imul (x_dk dn_376_1_1_ok 9 rfl)))
  (e_Lok (ld_iload_n_2 (x_dk dn_376_1_1_ok 10 rfl))))))
  (e_Tok2
  (e_Tok2
  (e_Lok (sm_iadd (x_dk dn_376_1_1_ok 11 rfl)))
  (e_Tok2
  (e_Lok (e_st (I := eI) (er_istore (i := 5) (x_dk dn_376_1_1_ok 12 rfl) (by decide +kernel)) nx_stor))
  (e_Lok (ld_aload_n_0 (x_dk dn_376_1_1_ok 13 rfl)))))
  (e_Tok2
  (e_Lok (lk_12_186g ho_376 (x_dk dn_376_1_1_ok 14 rfl)))
  (e_Tok2
  (e_Lok (ld_iload_5 (x_dk dn_376_1_1_ok 15 rfl)))
  (e_Lok (sm_iaload (x_dk dn_376_1_1_ok 16 rfl))))))))
def te_376_142 : Nat → eE := (e_T 363 (e_T 352 (e_T 347 (e_T 343 (e_L 343 (0, ei_if1 2 352 346, 0, 0)) (e_T 346 (e_L 346 (0, ei_load 0 2 347, 0, 0)) (e_L 347 (0, ei_push (0, 0) 348, 0, 0)))) (e_T 348 (e_L 348 (0, ei_push (0, 0) 349, 0, 0)) (e_T 349 (e_L 349 (2, e_nof, 370, 3)) (e_L 352 (0, ei_load 0 2 353, 0, 0))))) (e_T 357 (e_T 353 (e_L 353 (0, ei_load 0 2 354, 0, 0)) (e_T 354 (e_L 354 (0, ei_getf eft elay 12 70 357, 0, 0)) (e_L 357 (0, ei_load 5 0 359, 0, 0)))) (e_T 359 (e_L 359 (0, ei_ald elay false 360, 0, 0)) (e_T 360 (e_L 360 (0, ei_if1 2 373 363, 0, 0)) (e_L 363 (0, ei_load 0 2 364, 0, 0)))))) (e_T 374 (e_T 369 (e_T 364 (e_L 364 (0, ei_getf eft elay 12 70 367, 0, 0)) (e_T 367 (e_L 367 (0, ei_load 5 0 369, 0, 0)) (e_L 369 (0, ei_ald elay false 370, 0, 0)))) (e_T 370 (e_L 370 (0, ei_goto 380, 0, 0)) (e_T 373 (e_L 373 (0, ei_load 0 2 374, 0, 0)) (e_L 374 (0, ei_getf eft elay 12 71 377, 0, 0))))) (e_T 380 (e_T 377 (e_L 377 (0, ei_load 5 0 379, 0, 0)) (e_T 379 (e_L 379 (0, ei_ald elay false 380, 0, 0)) (e_L 380 (2, e_nof, 365, 2)))) (e_T 383 (e_L 383 (1, e_nof, 0, 0)) (e_T 384 (e_L 384 (0, ei_load 0 2 385, 0, 0)) (e_L 385 (0, ei_push (0, 900) 388, 0, 0)))))))
set_option maxRecDepth 20000 in
set_option maxHeartbeats 4000000 in
theorem te_376_142_ok : ∀ pc, e_EOq eft cls elay eI n_376 pc (te_376_142 pc) :=
  (e_Tok2
  (e_Tok2
  (e_Tok2
  (e_Tok2
  (e_Lok (e_st (I := eI) (er_iflt (off := 9) (tg := 352) (x_dk dn_376_1_1_ok 17 rfl) (by decide)) nx_if1))
  (e_Tok2
  (e_Lok (ld_aload_n_0 (x_dk dn_376_1_1_ok 18 rfl)))
  (e_Lok (ps_iconst_0 (x_dk dn_376_1_1_ok 19 rfl)))))
  (e_Tok2
  (e_Lok (ps_iconst_0 (x_dk dn_376_1_1_ok 20 rfl)))
  (e_Tok2
  (e_Lok (lk_12_690 ho_376 (x_dk dn_376_1_1_ok 21 rfl)))
  (e_Lok (ld_aload_n_0 (x_dk dn_376_1_1_ok 22 rfl))))))
  (e_Tok2
  (e_Tok2
  (e_Lok (ld_aload_n_0 (x_dk dn_376_1_1_ok 23 rfl)))
  (e_Tok2
  (e_Lok (lk_12_186g ho_376 (x_dk dn_376_1_1_ok 24 rfl)))
  (e_Lok (ld_iload_5 (x_dk dn_376_1_2_ok 0 rfl)))))
  (e_Tok2
  (e_Lok (sm_iaload (x_dk dn_376_1_2_ok 1 rfl)))
  (e_Tok2
  (e_Lok (e_st (I := eI) (er_iflt (off := 13) (tg := 373) (x_dk dn_376_1_2_ok 2 rfl) (by decide)) nx_if1))
  (e_Lok (ld_aload_n_0 (x_dk dn_376_1_2_ok 3 rfl)))))))
  (e_Tok2
  (e_Tok2
  (e_Tok2
  (e_Lok (lk_12_186g ho_376 (x_dk dn_376_1_2_ok 4 rfl)))
  (e_Tok2
  (e_Lok (ld_iload_5 (x_dk dn_376_1_2_ok 5 rfl)))
  (e_Lok (sm_iaload (x_dk dn_376_1_2_ok 6 rfl)))))
  (e_Tok2
  (e_Lok (e_st (I := eI) (er_goto (off := 10) (tg := 380) (x_dk dn_376_1_2_ok 7 rfl) (by decide)) nx_goto))
  (e_Tok2
  (e_Lok (ld_aload_n_0 (x_dk dn_376_1_2_ok 8 rfl)))
  (e_Lok (lk_12_189g ho_376 (x_dk dn_376_1_2_ok 9 rfl))))))
  (e_Tok2
  (e_Tok2
  (e_Lok (ld_iload_5 (x_dk dn_376_1_2_ok 10 rfl)))
  (e_Tok2
  (e_Lok (sm_iaload (x_dk dn_376_1_2_ok 11 rfl)))
  (e_Lok (lk_12_678 ho_376 (x_dk dn_376_1_2_ok 12 rfl)))))
  (e_Tok2
  (e_Lok (e_rt (I := eI) (k := 0) ⟨(x_dk dn_376_1_2_ok 13 rfl), rfl⟩))
  (e_Tok2
  (e_Lok (ld_aload_n_0 (x_dk dn_376_1_2_ok 14 rfl)))
  (e_Lok (ps_sipush_900 (x_dk dn_376_1_2_ok 15 rfl))))))))
def te_376_166 : Nat → eE := (e_T 405 (e_T 395 (e_T 392 (e_T 388 (e_L 388 (0, ei_load 0 2 389, 0, 0)) (e_T 389 (e_L 389 (0, ei_getf eft elay 12 98 392, 0, 0)) (e_L 392 (0, ei_bin eF_mul 393, 0, 0)))) (e_T 393 (e_L 393 (0, ei_load 2 0 394, 0, 0)) (e_T 394 (e_L 394 (0, ei_bin eF_add 395, 0, 0)) (e_L 395 (2, e_nof, 377, 2))))) (e_T 400 (e_T 398 (e_L 398 (1, e_nof, 0, 0)) (e_T 399 (e_L 399 (0, ei_load 0 2 400, 0, 0)) (e_L 400 (0, ei_load 1 0 401, 0, 0)))) (e_T 401 (e_L 401 (0, ei_load 2 0 402, 0, 0)) (e_T 402 (e_L 402 (2, e_nof, 378, 3)) (e_L 405 (0, ei_stor 6 0 407, 0, 0)))))) (e_T 418 (e_T 412 (e_T 407 (e_L 407 (0, ei_load 6 0 409, 0, 0)) (e_T 409 (e_L 409 (0, ei_if1 0 419 412, 0, 0)) (e_L 412 (0, ei_load 0 2 413, 0, 0)))) (e_T 413 (e_L 413 (0, ei_load 6 0 415, 0, 0)) (e_T 415 (e_L 415 (2, e_nof, 369, 2)) (e_L 418 (1, e_nof, 0, 0))))) (e_T 421 (e_T 419 (e_L 419 (0, ei_load 0 2 420, 0, 0)) (e_T 420 (e_L 420 (0, ei_load 3 0 421, 0, 0)) (e_L 421 (0, ei_push (0, 1) 422, 0, 0)))) (e_T 422 (e_L 422 (0, ei_bin eF_add 423, 0, 0)) (e_T 423 (e_L 423 (2, e_nof, 365, 2)) (e_L 426 (1, e_nof, 0, 0)))))))
set_option maxRecDepth 20000 in
set_option maxHeartbeats 4000000 in
theorem te_376_166_ok : ∀ pc, e_EOq eft cls elay eI n_376 pc (te_376_166 pc) :=
  (e_Tok2
  (e_Tok2
  (e_Tok2
  (e_Tok2
  (e_Lok (ld_aload_n_0 (x_dk dn_376_1_2_ok 16 rfl)))
  (e_Tok2
  (e_Lok (lk_12_663g ho_376 (x_dk dn_376_1_2_ok 17 rfl)))
  (e_Lok (sm_imul (x_dk dn_376_1_2_ok 18 rfl)))))
  (e_Tok2
  (e_Lok (ld_iload_n_2 (x_dk dn_376_1_2_ok 19 rfl)))
  (e_Tok2
  (e_Lok (sm_iadd (x_dk dn_376_1_2_ok 20 rfl)))
  (e_Lok (lk_12_723 ho_376 (x_dk dn_376_1_2_ok 21 rfl))))))
  (e_Tok2
  (e_Tok2
  (e_Lok (e_rt (I := eI) (k := 0) ⟨(x_dk dn_376_1_2_ok 22 rfl), rfl⟩))
  (e_Tok2
  (e_Lok (ld_aload_n_0 (x_dk dn_376_1_2_ok 23 rfl)))
  (e_Lok (ld_iload_n_1 (x_dk dn_376_1_2_ok 24 rfl)))))
  (e_Tok2
  (e_Lok (ld_iload_n_2 (x_dk dn_376_1_3_ok 0 rfl)))
  (e_Tok2
  (e_Lok (lk_12_726 ho_376 (x_dk dn_376_1_3_ok 1 rfl)))
  (e_Lok (e_st (I := eI) (er_istore (i := 6) (x_dk dn_376_1_3_ok 2 rfl) (by decide +kernel)) nx_stor))))))
  (e_Tok2
  (e_Tok2
  (e_Tok2
  (e_Lok (ld_iload_6 (x_dk dn_376_1_3_ok 3 rfl)))
  (e_Tok2
  (e_Lok (e_st (I := eI) (er_ifeq (off := 10) (tg := 419) (x_dk dn_376_1_3_ok 4 rfl) (by decide)) nx_if1))
  (e_Lok (ld_aload_n_0 (x_dk dn_376_1_3_ok 5 rfl)))))
  (e_Tok2
  (e_Lok (ld_iload_6 (x_dk dn_376_1_3_ok 6 rfl)))
  (e_Tok2
  (e_Lok (lk_12_672 ho_376 (x_dk dn_376_1_3_ok 7 rfl)))
  (e_Lok (e_rt (I := eI) (k := 0) ⟨(x_dk dn_376_1_3_ok 8 rfl), rfl⟩)))))
  (e_Tok2
  (e_Tok2
  (e_Lok (ld_aload_n_0 (x_dk dn_376_1_3_ok 9 rfl)))
  (e_Tok2
  (e_Lok (ld_iload_n_3 (x_dk dn_376_1_3_ok 10 rfl)))
  (e_Lok (ps_iconst_1 (x_dk dn_376_1_3_ok 11 rfl)))))
  (e_Tok2
  (e_Lok (sm_iadd (x_dk dn_376_1_3_ok 12 rfl)))
  (e_Tok2
  (e_Lok (lk_12_678 ho_376 (x_dk dn_376_1_3_ok 13 rfl)))
  (e_Lok (e_rt (I := eI) (k := 0) ⟨(x_dk dn_376_1_3_ok 14 rfl), rfl⟩)))))))
def te_376 : Nat → eE := (e_T 267 (e_T 182 (e_T 133 te_376_0 te_376_23) (e_T 223 te_376_47 te_376_71)) (e_T 342 (e_T 300 te_376_95 te_376_118) (e_T 385 te_376_142 te_376_166)))
theorem te_376_ok : ∀ pc, e_EOq eft cls elay eI n_376 pc (te_376 pc) := (e_Tok2 ((e_Tok2 ((e_Tok2 (te_376_0_ok) (te_376_23_ok))) ((e_Tok2 (te_376_47_ok) (te_376_71_ok))))) ((e_Tok2 ((e_Tok2 (te_376_95_ok) (te_376_118_ok))) ((e_Tok2 (te_376_142_ok) (te_376_166_ok))))))
theorem ho_377 : (xm_y n_377).cls = "RobotCellHouseModel" := rfl
def dn_377_0_0 : List (Nat × Instr × Nat) := [(0, .aload_n 0, 1), (1, .getfield 8, 3), (4, .aload_n 0, 1), (5, .getfield 651, 3), (8, .bipush 13, 2), (10, .iadd, 1), (11, .dup2, 1), (12, .iaload, 1), (13, .iconst 1, 1), (14, .isub, 1), (15, .iastore, 1), (16, .aload_n 0, 1), (17, .getfield 651, 3), (20, .bipush 60, 2), (22, .iadd, 1), (23, .iconst 2, 1), (24, .aload_n 0, 1), (25, .getfield 8, 3), (28, .aload_n 0, 1), (29, .getfield 651, 3), (32, .bipush 13, 2), (34, .iadd, 1), (35, .iaload, 1), (36, .imul, 1), (37, .iadd, 1)]
set_option maxRecDepth 20000 in
theorem dn_377_0_0_ok : dn_377_0_0.all (fun q => decide (decode (xm_b n_377) q.1 = .ok (q.2.1, q.2.2))) = true := xa_g_ok (by decide +kernel)
def dn_377_0_1 : List (Nat × Instr × Nat) := [(38, .istore_n 2, 1), (39, .aload_n 0, 1), (40, .getfield 8, 3), (43, .iload_n 2, 1), (44, .iaload, 1), (45, .ifCond .ne 16, 3), (48, .aload_n 0, 1), (49, .aload_n 0, 1), (50, .getfield 189, 3), (53, .iload_n 1, 1), (54, .iaload, 1), (55, .invokevirtual 678, 3), (58, .goto 27, 3), (61, .aload_n 0, 1), (62, .aload_n 0, 1), (63, .getfield 180, 3), (66, .iload_n 1, 1), (67, .iaload, 1), (68, .aload_n 0, 1), (69, .getfield 8, 3), (72, .iload_n 2, 1), (73, .iaload, 1), (74, .aload_n 0, 1), (75, .getfield 8, 3), (78, .iload_n 2, 1)]
set_option maxRecDepth 20000 in
theorem dn_377_0_1_ok : dn_377_0_1.all (fun q => decide (decode (xm_b n_377) q.1 = .ok (q.2.1, q.2.2))) = true := xa_g_ok (by decide +kernel)
def dn_377_0_2 : List (Nat × Instr × Nat) := [(79, .iconst 1, 1), (80, .iadd, 1), (81, .iaload, 1), (82, .invokevirtual 684, 3), (85, .return_, 1)]
set_option maxRecDepth 20000 in
theorem dn_377_0_2_ok : dn_377_0_2.all (fun q => decide (decode (xm_b n_377) q.1 = .ok (q.2.1, q.2.2))) = true := xa_g_ok (by decide +kernel)
def te_377_0 : Nat → eE := (e_T 17 (e_T 10 (e_T 4 (e_T 0 (e_L 0 (0, ei_load 0 2 1, 0, 0)) (e_T 1 (e_L 1 (0, ei_getf eft elay 12 0 4, 0, 0)) (e_L 4 (0, ei_load 0 2 5, 0, 0)))) (e_T 5 (e_L 5 (0, ei_getf eft elay 12 97 8, 0, 0)) (e_T 8 (e_L 8 (0, ei_push (0, 13) 10, 0, 0)) (e_L 10 (0, ei_bin eF_add 11, 0, 0))))) (e_T 13 (e_T 11 (e_L 11 (0, ei_stk ef_dup2 12, 0, 0)) (e_T 12 (e_L 12 (0, ei_ald elay false 13, 0, 0)) (e_L 13 (0, ei_push (0, 1) 14, 0, 0)))) (e_T 15 (e_T 14 (e_L 14 (0, ei_bin eF_sub 15, 0, 0)) (e_L 15 (0, ei_ast elay false 16, 0, 0))) (e_T 16 (e_L 16 (0, ei_load 0 2 17, 0, 0)) (e_L 17 (0, ei_getf eft elay 12 97 20, 0, 0)))))) (e_T 29 (e_T 23 (e_T 20 (e_L 20 (0, ei_push (0, 60) 22, 0, 0)) (e_T 22 (e_L 22 (0, ei_bin eF_add 23, 0, 0)) (e_L 23 (0, ei_push (0, 2) 24, 0, 0)))) (e_T 25 (e_T 24 (e_L 24 (0, ei_load 0 2 25, 0, 0)) (e_L 25 (0, ei_getf eft elay 12 0 28, 0, 0))) (e_T 28 (e_L 28 (0, ei_load 0 2 29, 0, 0)) (e_L 29 (0, ei_getf eft elay 12 97 32, 0, 0))))) (e_T 35 (e_T 32 (e_L 32 (0, ei_push (0, 13) 34, 0, 0)) (e_T 34 (e_L 34 (0, ei_bin eF_add 35, 0, 0)) (e_L 35 (0, ei_ald elay false 36, 0, 0)))) (e_T 37 (e_T 36 (e_L 36 (0, ei_bin eF_mul 37, 0, 0)) (e_L 37 (0, ei_bin eF_add 38, 0, 0))) (e_T 38 (e_L 38 (0, ei_stor 2 0 39, 0, 0)) (e_L 39 (0, ei_load 0 2 40, 0, 0)))))))
set_option maxRecDepth 20000 in
set_option maxHeartbeats 4000000 in
theorem te_377_0_ok : ∀ pc, e_EOq eft cls elay eI n_377 pc (te_377_0 pc) :=
  (e_Tok2
  (e_Tok2
  (e_Tok2
  (e_Tok2
  (e_Lok (ld_aload_n_0 (x_dk dn_377_0_0_ok 0 rfl)))
  (e_Tok2
  (e_Lok (lk_12_8g ho_377 (x_dk dn_377_0_0_ok 1 rfl)))
  (e_Lok (ld_aload_n_0 (x_dk dn_377_0_0_ok 2 rfl)))))
  (e_Tok2
  (e_Lok (lk_12_651g ho_377 (x_dk dn_377_0_0_ok 3 rfl)))
  (e_Tok2
  (e_Lok (ps_bipush_13 (x_dk dn_377_0_0_ok 4 rfl)))
  (e_Lok (sm_iadd (x_dk dn_377_0_0_ok 5 rfl))))))
  (e_Tok2
  (e_Tok2
  (e_Lok (e_st (I := eI) (er_dup2 (x_dk dn_377_0_0_ok 6 rfl)) (nx_stk bf_dup2)))
  (e_Tok2
  (e_Lok (sm_iaload (x_dk dn_377_0_0_ok 7 rfl)))
  (e_Lok (ps_iconst_1 (x_dk dn_377_0_0_ok 8 rfl)))))
  (e_Tok2
  (e_Tok2
  (e_Lok (sm_isub (x_dk dn_377_0_0_ok 9 rfl)))
  (e_Lok (sm_iastore (x_dk dn_377_0_0_ok 10 rfl))))
  (e_Tok2
  (e_Lok (ld_aload_n_0 (x_dk dn_377_0_0_ok 11 rfl)))
  (e_Lok (lk_12_651g ho_377 (x_dk dn_377_0_0_ok 12 rfl)))))))
  (e_Tok2
  (e_Tok2
  (e_Tok2
  (e_Lok (ps_bipush_60 (x_dk dn_377_0_0_ok 13 rfl)))
  (e_Tok2
  (e_Lok (sm_iadd (x_dk dn_377_0_0_ok 14 rfl)))
  (e_Lok (ps_iconst_2 (x_dk dn_377_0_0_ok 15 rfl)))))
  (e_Tok2
  (e_Tok2
  (e_Lok (ld_aload_n_0 (x_dk dn_377_0_0_ok 16 rfl)))
  (e_Lok (lk_12_8g ho_377 (x_dk dn_377_0_0_ok 17 rfl))))
  (e_Tok2
  (e_Lok (ld_aload_n_0 (x_dk dn_377_0_0_ok 18 rfl)))
  (e_Lok (lk_12_651g ho_377 (x_dk dn_377_0_0_ok 19 rfl))))))
  (e_Tok2
  (e_Tok2
  (e_Lok (ps_bipush_13 (x_dk dn_377_0_0_ok 20 rfl)))
  (e_Tok2
  (e_Lok (sm_iadd (x_dk dn_377_0_0_ok 21 rfl)))
  (e_Lok (sm_iaload (x_dk dn_377_0_0_ok 22 rfl)))))
  (e_Tok2
  (e_Tok2
  (e_Lok (sm_imul (x_dk dn_377_0_0_ok 23 rfl)))
  (e_Lok (sm_iadd (x_dk dn_377_0_0_ok 24 rfl))))
  (e_Tok2
  (e_Lok (e_st (I := eI) (er_istore_n (i := 2) (x_dk dn_377_0_1_ok 0 rfl) (by decide +kernel)) nx_stor))
  (e_Lok (ld_aload_n_0 (x_dk dn_377_0_1_ok 1 rfl))))))))
def te_377_27 : Nat → eE := (e_T 63 (e_T 50 (e_T 44 (e_T 40 (e_L 40 (0, ei_getf eft elay 12 0 43, 0, 0)) (e_T 43 (e_L 43 (0, ei_load 2 0 44, 0, 0)) (e_L 44 (0, ei_ald elay false 45, 0, 0)))) (e_T 48 (e_T 45 (e_L 45 (0, ei_if1 1 61 48, 0, 0)) (e_L 48 (0, ei_load 0 2 49, 0, 0))) (e_T 49 (e_L 49 (0, ei_load 0 2 50, 0, 0)) (e_L 50 (0, ei_getf eft elay 12 71 53, 0, 0))))) (e_T 55 (e_T 53 (e_L 53 (0, ei_load 1 0 54, 0, 0)) (e_T 54 (e_L 54 (0, ei_ald elay false 55, 0, 0)) (e_L 55 (2, e_nof, 365, 2)))) (e_T 61 (e_T 58 (e_L 58 (0, ei_goto 85, 0, 0)) (e_L 61 (0, ei_load 0 2 62, 0, 0))) (e_T 62 (e_L 62 (0, ei_load 0 2 63, 0, 0)) (e_L 63 (0, ei_getf eft elay 12 68 66, 0, 0)))))) (e_T 74 (e_T 68 (e_T 66 (e_L 66 (0, ei_load 1 0 67, 0, 0)) (e_T 67 (e_L 67 (0, ei_ald elay false 68, 0, 0)) (e_L 68 (0, ei_load 0 2 69, 0, 0)))) (e_T 72 (e_T 69 (e_L 69 (0, ei_getf eft elay 12 0 72, 0, 0)) (e_L 72 (0, ei_load 2 0 73, 0, 0))) (e_T 73 (e_L 73 (0, ei_ald elay false 74, 0, 0)) (e_L 74 (0, ei_load 0 2 75, 0, 0))))) (e_T 79 (e_T 75 (e_L 75 (0, ei_getf eft elay 12 0 78, 0, 0)) (e_T 78 (e_L 78 (0, ei_load 2 0 79, 0, 0)) (e_L 79 (0, ei_push (0, 1) 80, 0, 0)))) (e_T 81 (e_T 80 (e_L 80 (0, ei_bin eF_add 81, 0, 0)) (e_L 81 (0, ei_ald elay false 82, 0, 0))) (e_T 82 (e_L 82 (2, e_nof, 371, 4)) (e_L 85 (1, e_nof, 0, 0)))))))
set_option maxRecDepth 20000 in
set_option maxHeartbeats 4000000 in
theorem te_377_27_ok : ∀ pc, e_EOq eft cls elay eI n_377 pc (te_377_27 pc) :=
  (e_Tok2
  (e_Tok2
  (e_Tok2
  (e_Tok2
  (e_Lok (lk_12_8g ho_377 (x_dk dn_377_0_1_ok 2 rfl)))
  (e_Tok2
  (e_Lok (ld_iload_n_2 (x_dk dn_377_0_1_ok 3 rfl)))
  (e_Lok (sm_iaload (x_dk dn_377_0_1_ok 4 rfl)))))
  (e_Tok2
  (e_Tok2
  (e_Lok (e_st (I := eI) (er_ifne (off := 16) (tg := 61) (x_dk dn_377_0_1_ok 5 rfl) (by decide)) nx_if1))
  (e_Lok (ld_aload_n_0 (x_dk dn_377_0_1_ok 6 rfl))))
  (e_Tok2
  (e_Lok (ld_aload_n_0 (x_dk dn_377_0_1_ok 7 rfl)))
  (e_Lok (lk_12_189g ho_377 (x_dk dn_377_0_1_ok 8 rfl))))))
  (e_Tok2
  (e_Tok2
  (e_Lok (ld_iload_n_1 (x_dk dn_377_0_1_ok 9 rfl)))
  (e_Tok2
  (e_Lok (sm_iaload (x_dk dn_377_0_1_ok 10 rfl)))
  (e_Lok (lk_12_678 ho_377 (x_dk dn_377_0_1_ok 11 rfl)))))
  (e_Tok2
  (e_Tok2
  (e_Lok (e_st (I := eI) (er_goto (off := 27) (tg := 85) (x_dk dn_377_0_1_ok 12 rfl) (by decide)) nx_goto))
  (e_Lok (ld_aload_n_0 (x_dk dn_377_0_1_ok 13 rfl))))
  (e_Tok2
  (e_Lok (ld_aload_n_0 (x_dk dn_377_0_1_ok 14 rfl)))
  (e_Lok (lk_12_180g ho_377 (x_dk dn_377_0_1_ok 15 rfl)))))))
  (e_Tok2
  (e_Tok2
  (e_Tok2
  (e_Lok (ld_iload_n_1 (x_dk dn_377_0_1_ok 16 rfl)))
  (e_Tok2
  (e_Lok (sm_iaload (x_dk dn_377_0_1_ok 17 rfl)))
  (e_Lok (ld_aload_n_0 (x_dk dn_377_0_1_ok 18 rfl)))))
  (e_Tok2
  (e_Tok2
  (e_Lok (lk_12_8g ho_377 (x_dk dn_377_0_1_ok 19 rfl)))
  (e_Lok (ld_iload_n_2 (x_dk dn_377_0_1_ok 20 rfl))))
  (e_Tok2
  (e_Lok (sm_iaload (x_dk dn_377_0_1_ok 21 rfl)))
  (e_Lok (ld_aload_n_0 (x_dk dn_377_0_1_ok 22 rfl))))))
  (e_Tok2
  (e_Tok2
  (e_Lok (lk_12_8g ho_377 (x_dk dn_377_0_1_ok 23 rfl)))
  (e_Tok2
  (e_Lok (ld_iload_n_2 (x_dk dn_377_0_1_ok 24 rfl)))
  (e_Lok (ps_iconst_1 (x_dk dn_377_0_2_ok 0 rfl)))))
  (e_Tok2
  (e_Tok2
  (e_Lok (sm_iadd (x_dk dn_377_0_2_ok 1 rfl)))
  (e_Lok (sm_iaload (x_dk dn_377_0_2_ok 2 rfl))))
  (e_Tok2
  (e_Lok (lk_12_684 ho_377 (x_dk dn_377_0_2_ok 3 rfl)))
  (e_Lok (e_rt (I := eI) (k := 0) ⟨(x_dk dn_377_0_2_ok 4 rfl), rfl⟩)))))))
def te_377 : Nat → eE := (e_T 39 te_377_0 te_377_27)
theorem te_377_ok : ∀ pc, e_EOq eft cls elay eI n_377 pc (te_377 pc) := (e_Tok2 (te_377_0_ok) (te_377_27_ok))
end
