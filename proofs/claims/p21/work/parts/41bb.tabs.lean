noncomputable section
theorem ho_365 : (xm_y n_365).cls = "RobotCellHouseModel" := rfl
def dn_365_0_0 : List (Nat × Instr × Nat) := [(0, .aload_n 0, 1), (1, .getfield 8, 3), (4, .aload_n 0, 1), (5, .invokevirtual 657, 3), (8, .iload_n 1, 1), (9, .iastore, 1), (10, .return_, 1)]
set_option maxRecDepth 20000 in
theorem dn_365_0_0_ok : dn_365_0_0.all (fun q => decide (decode (xm_b n_365) q.1 = .ok (q.2.1, q.2.2))) = true := xa_g_ok (by decide +kernel)
def te_365_0 : Nat → eE := (e_T 4 (e_T 0 (e_L 0 (0, ei_load 0 2 1, 0, 0)) (e_T 1 (e_L 1 (0, ei_getf eft elay 12 0 4, 0, 0)) (e_L 4 (0, ei_load 0 2 5, 0, 0)))) (e_T 8 (e_T 5 (e_L 5 (2, e_nof, 362, 1)) (e_L 8 (0, ei_load 1 0 9, 0, 0))) (e_T 9 (e_L 9 (0, ei_ast elay false 10, 0, 0)) (e_L 10 (1, e_nof, 0, 0)))))
set_option maxRecDepth 20000 in
set_option maxHeartbeats 4000000 in
theorem te_365_0_ok : ∀ pc, e_EOq eft cls elay eI n_365 pc (te_365_0 pc) :=
  (e_Tok2
  (e_Tok2
  (e_Lok (ld_aload_n_0 (x_dk dn_365_0_0_ok 0 rfl)))
  (e_Tok2
  (e_Lok (lk_12_8g ho_365 (x_dk dn_365_0_0_ok 1 rfl)))
  (e_Lok (ld_aload_n_0 (x_dk dn_365_0_0_ok 2 rfl)))))
  (e_Tok2
  (e_Tok2
  (e_Lok (lk_12_657 ho_365 (x_dk dn_365_0_0_ok 3 rfl)))
  (e_Lok (ld_iload_n_1 (x_dk dn_365_0_0_ok 4 rfl))))
  (e_Tok2
  (e_Lok (sm_iastore (x_dk dn_365_0_0_ok 5 rfl)))
  (e_Lok (e_rt (I := eI) (k := 0) ⟨(x_dk dn_365_0_0_ok 6 rfl), rfl⟩)))))
def te_365 : Nat → eE := te_365_0
theorem te_365_ok : ∀ pc, e_EOq eft cls elay eI n_365 pc (te_365 pc) := te_365_0_ok
theorem ho_366 : (xm_y n_366).cls = "RobotCellHouseModel" := rfl
def dn_366_0_0 : List (Nat × Instr × Nat) := [(0, .aload_n 0, 1), (1, .iload_n 1, 1), (2, .putfield 660, 3), (5, .aload_n 0, 1), (6, .iload_n 1, 1), (7, .invokestatic 298, 3), (10, .putfield 651, 3), (13, .aload_n 0, 1), (14, .aload_n 0, 1), (15, .getfield 8, 3), (18, .aload_n 0, 1), (19, .getfield 651, 3), (22, .iconst 1, 1), (23, .iadd, 1), (24, .iaload, 1), (25, .putfield 663, 3), (28, .aload_n 0, 1), (29, .iconst 0, 1), (30, .putfield 666, 3), (33, .aload_n 0, 1), (34, .iconst 0, 1), (35, .putfield 654, 3), (38, .aload_n 0, 1), (39, .iconst 0, 1), (40, .putfield 669, 3)]
set_option maxRecDepth 20000 in
theorem dn_366_0_0_ok : dn_366_0_0.all (fun q => decide (decode (xm_b n_366) q.1 = .ok (q.2.1, q.2.2))) = true := xa_g_ok (by decide +kernel)
def dn_366_0_1 : List (Nat × Instr × Nat) := [(43, .aload_n 0, 1), (44, .getfield 8, 3), (47, .aload_n 0, 1), (48, .getfield 651, 3), (51, .iaload, 1), (52, .tableswitch 168 2 5 #[32, 100, 168, 132], 32), (84, .aload_n 0, 1), (85, .aload_n 0, 1), (86, .getfield 8, 3), (89, .aload_n 0, 1), (90, .getfield 663, 3), (93, .invokestatic 294, 3), (96, .iconst 0, 1), (97, .iadd, 1), (98, .iaload, 1), (99, .ifCond .eq 7, 3), (102, .iconst 1, 1), (103, .goto 4, 3), (106, .iconst 0, 1), (107, .putfield 669, 3), (110, .aload_n 0, 1), (111, .getfield 669, 3), (114, .ifCond .ne 106, 3), (117, .aload_n 0, 1), (118, .getfield 8, 3)]
set_option maxRecDepth 20000 in
theorem dn_366_0_1_ok : dn_366_0_1.all (fun q => decide (decode (xm_b n_366) q.1 = .ok (q.2.1, q.2.2))) = true := xa_g_ok (by decide +kernel)
def dn_366_0_2 : List (Nat × Instr × Nat) := [(121, .aload_n 0, 1), (122, .getfield 651, 3), (125, .iconst 1, 1), (126, .iastore, 1), (127, .aload_n 0, 1), (128, .getfield 8, 3), (131, .aload_n 0, 1), (132, .getfield 651, 3), (135, .bipush 7, 2), (137, .iadd, 1), (138, .iaload, 1), (139, .iconst 1, 1), (140, .if_icmp .ne 80, 3), (143, .aload_n 0, 1), (144, .bipush 6, 2), (146, .invokevirtual 672, 3), (149, .goto 71, 3), (152, .aload_n 0, 1), (153, .aload_n 0, 1), (154, .getfield 8, 3), (157, .iconst 0, 1), (158, .iaload, 1), (159, .aload_n 0, 1), (160, .getfield 8, 3), (163, .aload_n 0, 1)]
set_option maxRecDepth 20000 in
theorem dn_366_0_2_ok : dn_366_0_2.all (fun q => decide (decode (xm_b n_366) q.1 = .ok (q.2.1, q.2.2))) = true := xa_g_ok (by decide +kernel)
def dn_366_0_3 : List (Nat × Instr × Nat) := [(164, .getfield 651, 3), (167, .iconst 4, 1), (168, .iadd, 1), (169, .iaload, 1), (170, .if_icmp .ge 7, 3), (173, .iconst 1, 1), (174, .goto 4, 3), (177, .iconst 0, 1), (178, .putfield 669, 3), (181, .goto 39, 3), (184, .aload_n 0, 1), (185, .aload_n 0, 1), (186, .getfield 8, 3), (189, .sipush 20868, 3), (192, .aload_n 0, 1), (193, .getfield 8, 3), (196, .aload_n 0, 1), (197, .getfield 651, 3), (200, .iconst 5, 1), (201, .iadd, 1), (202, .iaload, 1), (203, .iadd, 1), (204, .iaload, 1), (205, .iload_n 1, 1), (206, .if_icmp .eq 7, 3)]
set_option maxRecDepth 20000 in
theorem dn_366_0_3_ok : dn_366_0_3.all (fun q => decide (decode (xm_b n_366) q.1 = .ok (q.2.1, q.2.2))) = true := xa_g_ok (by decide +kernel)
def dn_366_1_0 : List (Nat × Instr × Nat) := [(209, .iconst 1, 1), (210, .goto 4, 3), (213, .iconst 0, 1), (214, .putfield 669, 3), (217, .goto 3, 3), (220, .aload_n 0, 1), (221, .getfield 669, 3), (224, .ifCond .ne 41, 3), (227, .aload_n 0, 1), (228, .getfield 8, 3), (231, .aload_n 0, 1), (232, .getfield 651, 3), (235, .iaload, 1), (236, .bipush 6, 2), (238, .if_icmp .ge 27, 3), (241, .aload_n 0, 1), (242, .getfield 8, 3), (245, .aload_n 0, 1), (246, .getfield 651, 3), (249, .iconst 1, 1), (250, .iastore, 1), (251, .aload_n 0, 1), (252, .getfield 669, 3), (255, .ifCond .ne 10, 3), (258, .aload_n 0, 1)]
set_option maxRecDepth 20000 in
theorem dn_366_1_0_ok : dn_366_1_0.all (fun q => decide (decode (xm_b n_366) q.1 = .ok (q.2.1, q.2.2))) = true := xa_g_ok (by decide +kernel)
def dn_366_1_1 : List (Nat × Instr × Nat) := [(259, .invokevirtual 675, 3), (262, .goto (-11), 3), (265, .return_, 1)]
set_option maxRecDepth 20000 in
theorem dn_366_1_1_ok : dn_366_1_1.all (fun q => decide (decode (xm_b n_366) q.1 = .ok (q.2.1, q.2.2))) = true := xa_g_ok (by decide +kernel)
def te_366_0 : Nat → eE := (e_T 25 (e_T 13 (e_T 5 (e_T 1 (e_T 0 (e_L 0 (0, ei_load 0 2 1, 0, 0)) (e_L 1 (0, ei_load 1 0 2, 0, 0))) (e_T 2 (e_L 2 (0, ei_putf eft elay 12 96 0 5, 0, 0)) (e_L 5 (0, ei_load 0 2 6, 0, 0)))) (e_T 7 (e_T 6 (e_L 6 (0, ei_load 1 0 7, 0, 0)) (e_L 7 (2, e_nof, 269, 1))) (e_T 10 (e_L 10 (0, ei_putf eft elay 12 97 0 13, 0, 0)) (e_L 13 (0, ei_load 0 2 14, 0, 0))))) (e_T 19 (e_T 15 (e_T 14 (e_L 14 (0, ei_load 0 2 15, 0, 0)) (e_L 15 (0, ei_getf eft elay 12 0 18, 0, 0))) (e_T 18 (e_L 18 (0, ei_load 0 2 19, 0, 0)) (e_L 19 (0, ei_getf eft elay 12 97 22, 0, 0)))) (e_T 23 (e_T 22 (e_L 22 (0, ei_push (0, 1) 23, 0, 0)) (e_L 23 (0, ei_bin eF_add 24, 0, 0))) (e_T 24 (e_L 24 (0, ei_ald elay false 25, 0, 0)) (e_L 25 (0, ei_putf eft elay 12 98 0 28, 0, 0)))))) (e_T 39 (e_T 33 (e_T 29 (e_T 28 (e_L 28 (0, ei_load 0 2 29, 0, 0)) (e_L 29 (0, ei_push (0, 0) 30, 0, 0))) (e_T 30 (e_L 30 (0, ei_putf eft elay 12 99 0 33, 0, 0)) (e_L 33 (0, ei_load 0 2 34, 0, 0)))) (e_T 35 (e_T 34 (e_L 34 (0, ei_push (0, 0) 35, 0, 0)) (e_L 35 (0, ei_putf eft elay 12 102 0 38, 0, 0))) (e_T 38 (e_L 38 (0, ei_load 0 2 39, 0, 0)) (e_L 39 (0, ei_push (0, 0) 40, 0, 0))))) (e_T 47 (e_T 43 (e_T 40 (e_L 40 (0, ei_putf eft elay 12 100 1 43, 0, 0)) (e_L 43 (0, ei_load 0 2 44, 0, 0))) (e_T 44 (e_L 44 (0, ei_getf eft elay 12 0 47, 0, 0)) (e_L 47 (0, ei_load 0 2 48, 0, 0)))) (e_T 51 (e_T 48 (e_L 48 (0, ei_getf eft elay 12 97 51, 0, 0)) (e_L 51 (0, ei_ald elay false 52, 0, 0))) (e_T 52 (e_L 52 (0, ei_sw [((-2147483648), 1, 220), (2, 2, 84), (3, 3, 152), (4, 4, 220), (5, 5, 184), (6, 2147483647, 220)], 0, 0)) (e_L 84 (0, ei_load 0 2 85, 0, 0)))))))
set_option maxRecDepth 20000 in
set_option maxHeartbeats 4000000 in
theorem te_366_0_ok : ∀ pc, e_EOq eft cls elay eI n_366 pc (te_366_0 pc) :=
  (e_Tok2
  (e_Tok2
  (e_Tok2
  (e_Tok2
  (e_Tok2
  (e_Lok (ld_aload_n_0 (x_dk dn_366_0_0_ok 0 rfl)))
  (e_Lok (ld_iload_n_1 (x_dk dn_366_0_0_ok 1 rfl))))
  (e_Tok2
  (e_Lok (lk_12_660p ho_366 (x_dk dn_366_0_0_ok 2 rfl)))
  (e_Lok (ld_aload_n_0 (x_dk dn_366_0_0_ok 3 rfl)))))
  (e_Tok2
  (e_Tok2
  (e_Lok (ld_iload_n_1 (x_dk dn_366_0_0_ok 4 rfl)))
  (e_Lok (lk_12_298 ho_366 (x_dk dn_366_0_0_ok 5 rfl))))
  (e_Tok2
  (e_Lok (lk_12_651p ho_366 (x_dk dn_366_0_0_ok 6 rfl)))
  (e_Lok (ld_aload_n_0 (x_dk dn_366_0_0_ok 7 rfl))))))
  (e_Tok2
  (e_Tok2
  (e_Tok2
  (e_Lok (ld_aload_n_0 (x_dk dn_366_0_0_ok 8 rfl)))
  (e_Lok (lk_12_8g ho_366 (x_dk dn_366_0_0_ok 9 rfl))))
  (e_Tok2
  (e_Lok (ld_aload_n_0 (x_dk dn_366_0_0_ok 10 rfl)))
  (e_Lok (lk_12_651g ho_366 (x_dk dn_366_0_0_ok 11 rfl)))))
  (e_Tok2
  (e_Tok2
  (e_Lok (ps_iconst_1 (x_dk dn_366_0_0_ok 12 rfl)))
  (e_Lok (sm_iadd (x_dk dn_366_0_0_ok 13 rfl))))
  (e_Tok2
  (e_Lok (sm_iaload (x_dk dn_366_0_0_ok 14 rfl)))
  (e_Lok (lk_12_663p ho_366 (x_dk dn_366_0_0_ok 15 rfl)))))))
  (e_Tok2
  (e_Tok2
  (e_Tok2
  (e_Tok2
  (e_Lok (ld_aload_n_0 (x_dk dn_366_0_0_ok 16 rfl)))
  (e_Lok (ps_iconst_0 (x_dk dn_366_0_0_ok 17 rfl))))
  (e_Tok2
  (e_Lok (lk_12_666p ho_366 (x_dk dn_366_0_0_ok 18 rfl)))
  (e_Lok (ld_aload_n_0 (x_dk dn_366_0_0_ok 19 rfl)))))
  (e_Tok2
  (e_Tok2
  (e_Lok (ps_iconst_0 (x_dk dn_366_0_0_ok 20 rfl)))
  (e_Lok (lk_12_654p ho_366 (x_dk dn_366_0_0_ok 21 rfl))))
  (e_Tok2
  (e_Lok (ld_aload_n_0 (x_dk dn_366_0_0_ok 22 rfl)))
  (e_Lok (ps_iconst_0 (x_dk dn_366_0_0_ok 23 rfl))))))
  (e_Tok2
  (e_Tok2
  (e_Tok2
  (e_Lok (lk_12_669p ho_366 (x_dk dn_366_0_0_ok 24 rfl)))
  (e_Lok (ld_aload_n_0 (x_dk dn_366_0_1_ok 0 rfl))))
  (e_Tok2
  (e_Lok (lk_12_8g ho_366 (x_dk dn_366_0_1_ok 1 rfl)))
  (e_Lok (ld_aload_n_0 (x_dk dn_366_0_1_ok 2 rfl)))))
  (e_Tok2
  (e_Tok2
  (e_Lok (lk_12_651g ho_366 (x_dk dn_366_0_1_ok 3 rfl)))
  (e_Lok (sm_iaload (x_dk dn_366_0_1_ok 4 rfl))))
  (e_Tok2
  (e_Lok (e_st (I := eI) (er_tsw (dflt := 168) (lo := 2) (hi := 5) (offs := #[32, 100, 168, 132]) (len := 32) (n := 4) (x_dk dn_366_0_1_ok 5 rfl) (by decide) (by decide +kernel)) nx_sw))
  (e_Lok (ld_aload_n_0 (x_dk dn_366_0_1_ok 6 rfl))))))))
def te_366_32 : Nat → eE := (e_T 114 (e_T 98 (e_T 90 (e_T 86 (e_T 85 (e_L 85 (0, ei_load 0 2 86, 0, 0)) (e_L 86 (0, ei_getf eft elay 12 0 89, 0, 0))) (e_T 89 (e_L 89 (0, ei_load 0 2 90, 0, 0)) (e_L 90 (0, ei_getf eft elay 12 98 93, 0, 0)))) (e_T 96 (e_T 93 (e_L 93 (2, e_nof, 268, 1)) (e_L 96 (0, ei_push (0, 0) 97, 0, 0))) (e_T 97 (e_L 97 (0, ei_bin eF_add 98, 0, 0)) (e_L 98 (0, ei_ald elay false 99, 0, 0))))) (e_T 106 (e_T 102 (e_T 99 (e_L 99 (0, ei_if1 0 106 102, 0, 0)) (e_L 102 (0, ei_push (0, 1) 103, 0, 0))) (e_T 103 (e_L 103 (0, ei_goto 107, 0, 0)) (e_L 106 (0, ei_push (0, 0) 107, 0, 0)))) (e_T 110 (e_T 107 (e_L 107 (0, ei_putf eft elay 12 100 1 110, 0, 0)) (e_L 110 (0, ei_load 0 2 111, 0, 0))) (e_T 111 (e_L 111 (0, ei_getf eft elay 12 100 114, 0, 0)) (e_L 114 (0, ei_if1 1 220 117, 0, 0)))))) (e_T 128 (e_T 122 (e_T 118 (e_T 117 (e_L 117 (0, ei_load 0 2 118, 0, 0)) (e_L 118 (0, ei_getf eft elay 12 0 121, 0, 0))) (e_T 121 (e_L 121 (0, ei_load 0 2 122, 0, 0)) (e_L 122 (0, ei_getf eft elay 12 97 125, 0, 0)))) (e_T 126 (e_T 125 (e_L 125 (0, ei_push (0, 1) 126, 0, 0)) (e_L 126 (0, ei_ast elay false 127, 0, 0))) (e_T 127 (e_L 127 (0, ei_load 0 2 128, 0, 0)) (e_L 128 (0, ei_getf eft elay 12 0 131, 0, 0))))) (e_T 137 (e_T 132 (e_T 131 (e_L 131 (0, ei_load 0 2 132, 0, 0)) (e_L 132 (0, ei_getf eft elay 12 97 135, 0, 0))) (e_T 135 (e_L 135 (0, ei_push (0, 7) 137, 0, 0)) (e_L 137 (0, ei_bin eF_add 138, 0, 0)))) (e_T 139 (e_T 138 (e_L 138 (0, ei_ald elay false 139, 0, 0)) (e_L 139 (0, ei_push (0, 1) 140, 0, 0))) (e_T 140 (e_L 140 (0, ei_if2 1 220 143, 0, 0)) (e_L 143 (0, ei_load 0 2 144, 0, 0)))))))
set_option maxRecDepth 20000 in
set_option maxHeartbeats 4000000 in
theorem te_366_32_ok : ∀ pc, e_EOq eft cls elay eI n_366 pc (te_366_32 pc) :=
  (e_Tok2
  (e_Tok2
  (e_Tok2
  (e_Tok2
  (e_Tok2
  (e_Lok (ld_aload_n_0 (x_dk dn_366_0_1_ok 7 rfl)))
  (e_Lok (lk_12_8g ho_366 (x_dk dn_366_0_1_ok 8 rfl))))
  (e_Tok2
  (e_Lok (ld_aload_n_0 (x_dk dn_366_0_1_ok 9 rfl)))
  (e_Lok (lk_12_663g ho_366 (x_dk dn_366_0_1_ok 10 rfl)))))
  (e_Tok2
  (e_Tok2
  (e_Lok (lk_12_294 ho_366 (x_dk dn_366_0_1_ok 11 rfl)))
  (e_Lok (ps_iconst_0 (x_dk dn_366_0_1_ok 12 rfl))))
  (e_Tok2
  (e_Lok (sm_iadd (x_dk dn_366_0_1_ok 13 rfl)))
  (e_Lok (sm_iaload (x_dk dn_366_0_1_ok 14 rfl))))))
  (e_Tok2
  (e_Tok2
  (e_Tok2
  (e_Lok (e_st (I := eI) (er_ifeq (off := 7) (tg := 106) (x_dk dn_366_0_1_ok 15 rfl) (by decide)) nx_if1))
  (e_Lok (ps_iconst_1 (x_dk dn_366_0_1_ok 16 rfl))))
  (e_Tok2
  (e_Lok (e_st (I := eI) (er_goto (off := 4) (tg := 107) (x_dk dn_366_0_1_ok 17 rfl) (by decide)) nx_goto))
  (e_Lok (ps_iconst_0 (x_dk dn_366_0_1_ok 18 rfl)))))
  (e_Tok2
  (e_Tok2
  (e_Lok (lk_12_669p ho_366 (x_dk dn_366_0_1_ok 19 rfl)))
  (e_Lok (ld_aload_n_0 (x_dk dn_366_0_1_ok 20 rfl))))
  (e_Tok2
  (e_Lok (lk_12_669g ho_366 (x_dk dn_366_0_1_ok 21 rfl)))
  (e_Lok (e_st (I := eI) (er_ifne (off := 106) (tg := 220) (x_dk dn_366_0_1_ok 22 rfl) (by decide)) nx_if1))))))
  (e_Tok2
  (e_Tok2
  (e_Tok2
  (e_Tok2
  (e_Lok (ld_aload_n_0 (x_dk dn_366_0_1_ok 23 rfl)))
  (e_Lok (lk_12_8g ho_366 (x_dk dn_366_0_1_ok 24 rfl))))
  (e_Tok2
  (e_Lok (ld_aload_n_0 (x_dk dn_366_0_2_ok 0 rfl)))
  (e_Lok (lk_12_651g ho_366 (x_dk dn_366_0_2_ok 1 rfl)))))
  (e_Tok2
  (e_Tok2
  (e_Lok (ps_iconst_1 (x_dk dn_366_0_2_ok 2 rfl)))
  (e_Lok (sm_iastore (x_dk dn_366_0_2_ok 3 rfl))))
  (e_Tok2
  (e_Lok (ld_aload_n_0 (x_dk dn_366_0_2_ok 4 rfl)))
  (e_Lok (lk_12_8g ho_366 (x_dk dn_366_0_2_ok 5 rfl))))))
  (e_Tok2
  (e_Tok2
  (e_Tok2
  (e_Lok (ld_aload_n_0 (x_dk dn_366_0_2_ok 6 rfl)))
  (e_Lok (lk_12_651g ho_366 (x_dk dn_366_0_2_ok 7 rfl))))
  (e_Tok2
  (e_Lok (ps_bipush_7 (x_dk dn_366_0_2_ok 8 rfl)))
  (e_Lok (sm_iadd (x_dk dn_366_0_2_ok 9 rfl)))))
  (e_Tok2
  (e_Tok2
  (e_Lok (sm_iaload (x_dk dn_366_0_2_ok 10 rfl)))
  (e_Lok (ps_iconst_1 (x_dk dn_366_0_2_ok 11 rfl))))
  (e_Tok2
  (e_Lok (e_st (I := eI) (er_icmpne (off := 80) (tg := 220) (x_dk dn_366_0_2_ok 12 rfl) (by decide)) nx_if2))
  (e_Lok (ld_aload_n_0 (x_dk dn_366_0_2_ok 13 rfl))))))))
def te_366_64 : Nat → eE := (e_T 170 (e_T 158 (e_T 152 (e_T 146 (e_T 144 (e_L 144 (0, ei_push (0, 6) 146, 0, 0)) (e_L 146 (2, e_nof, 369, 2))) (e_T 149 (e_L 149 (0, ei_goto 220, 0, 0)) (e_L 152 (0, ei_load 0 2 153, 0, 0)))) (e_T 154 (e_T 153 (e_L 153 (0, ei_load 0 2 154, 0, 0)) (e_L 154 (0, ei_getf eft elay 12 0 157, 0, 0))) (e_T 157 (e_L 157 (0, ei_push (0, 0) 158, 0, 0)) (e_L 158 (0, ei_ald elay false 159, 0, 0))))) (e_T 164 (e_T 160 (e_T 159 (e_L 159 (0, ei_load 0 2 160, 0, 0)) (e_L 160 (0, ei_getf eft elay 12 0 163, 0, 0))) (e_T 163 (e_L 163 (0, ei_load 0 2 164, 0, 0)) (e_L 164 (0, ei_getf eft elay 12 97 167, 0, 0)))) (e_T 168 (e_T 167 (e_L 167 (0, ei_push (0, 4) 168, 0, 0)) (e_L 168 (0, ei_bin eF_add 169, 0, 0))) (e_T 169 (e_L 169 (0, ei_ald elay false 170, 0, 0)) (e_L 170 (0, ei_if2 3 177 173, 0, 0)))))) (e_T 186 (e_T 178 (e_T 174 (e_T 173 (e_L 173 (0, ei_push (0, 1) 174, 0, 0)) (e_L 174 (0, ei_goto 178, 0, 0))) (e_T 177 (e_L 177 (0, ei_push (0, 0) 178, 0, 0)) (e_L 178 (0, ei_putf eft elay 12 100 1 181, 0, 0)))) (e_T 184 (e_T 181 (e_L 181 (0, ei_goto 220, 0, 0)) (e_L 184 (0, ei_load 0 2 185, 0, 0))) (e_T 185 (e_L 185 (0, ei_load 0 2 186, 0, 0)) (e_L 186 (0, ei_getf eft elay 12 0 189, 0, 0))))) (e_T 196 (e_T 192 (e_T 189 (e_L 189 (0, ei_push (0, 20868) 192, 0, 0)) (e_L 192 (0, ei_load 0 2 193, 0, 0))) (e_T 193 (e_L 193 (0, ei_getf eft elay 12 0 196, 0, 0)) (e_L 196 (0, ei_load 0 2 197, 0, 0)))) (e_T 200 (e_T 197 (e_L 197 (0, ei_getf eft elay 12 97 200, 0, 0)) (e_L 200 (0, ei_push (0, 5) 201, 0, 0))) (e_T 201 (e_L 201 (0, ei_bin eF_add 202, 0, 0)) (e_L 202 (0, ei_ald elay false 203, 0, 0)))))))
set_option maxRecDepth 20000 in
set_option maxHeartbeats 4000000 in
theorem te_366_64_ok : ∀ pc, e_EOq eft cls elay eI n_366 pc (te_366_64 pc) :=
  (e_Tok2
  (e_Tok2
  (e_Tok2
  (e_Tok2
  (e_Tok2
  (e_Lok (ps_bipush_6 (x_dk dn_366_0_2_ok 14 rfl)))
  (e_Lok (lk_12_672 ho_366 (x_dk dn_366_0_2_ok 15 rfl))))
  (e_Tok2
  (e_Lok (e_st (I := eI) (er_goto (off := 71) (tg := 220) (x_dk dn_366_0_2_ok 16 rfl) (by decide)) nx_goto))
  (e_Lok (ld_aload_n_0 (x_dk dn_366_0_2_ok 17 rfl)))))
  (e_Tok2
  (e_Tok2
  (e_Lok (ld_aload_n_0 (x_dk dn_366_0_2_ok 18 rfl)))
  (e_Lok (lk_12_8g ho_366 (x_dk dn_366_0_2_ok 19 rfl))))
  (e_Tok2
  (e_Lok (ps_iconst_0 (x_dk dn_366_0_2_ok 20 rfl)))
  (e_Lok (sm_iaload (x_dk dn_366_0_2_ok 21 rfl))))))
  (e_Tok2
  (e_Tok2
  (e_Tok2
  (e_Lok (ld_aload_n_0 (x_dk dn_366_0_2_ok 22 rfl)))
  (e_Lok (lk_12_8g ho_366 (x_dk dn_366_0_2_ok 23 rfl))))
  (e_Tok2
  (e_Lok (ld_aload_n_0 (x_dk dn_366_0_2_ok 24 rfl)))
  (e_Lok (lk_12_651g ho_366 (x_dk dn_366_0_3_ok 0 rfl)))))
  (e_Tok2
  (e_Tok2
  (e_Lok (ps_iconst_4 (x_dk dn_366_0_3_ok 1 rfl)))
  (e_Lok (sm_iadd (x_dk dn_366_0_3_ok 2 rfl))))
  (e_Tok2
  (e_Lok (sm_iaload (x_dk dn_366_0_3_ok 3 rfl)))
  (e_Lok (e_st (I := eI) (er_icmpge (off := 7) (tg := 177) (x_dk dn_366_0_3_ok 4 rfl) (by decide)) nx_if2))))))
  (e_Tok2
  (e_Tok2
  (e_Tok2
  (e_Tok2
  (e_Lok (ps_iconst_1 (x_dk dn_366_0_3_ok 5 rfl)))
  (e_Lok (e_st (I := eI) (er_goto (off := 4) (tg := 178) (x_dk dn_366_0_3_ok 6 rfl) (by decide)) nx_goto)))
  (e_Tok2
  (e_Lok (ps_iconst_0 (x_dk dn_366_0_3_ok 7 rfl)))
  (e_Lok (lk_12_669p ho_366 (x_dk dn_366_0_3_ok 8 rfl)))))
  (e_Tok2
  (e_Tok2
  (e_Lok (e_st (I := eI) (er_goto (off := 39) (tg := 220) (x_dk dn_366_0_3_ok 9 rfl) (by decide)) nx_goto))
  (e_Lok (ld_aload_n_0 (x_dk dn_366_0_3_ok 10 rfl))))
  (e_Tok2
  (e_Lok (ld_aload_n_0 (x_dk dn_366_0_3_ok 11 rfl)))
  (e_Lok (lk_12_8g ho_366 (x_dk dn_366_0_3_ok 12 rfl))))))
  (e_Tok2
  (e_Tok2
  (e_Tok2
  (e_Lok (ps_sipush_20868 (x_dk dn_366_0_3_ok 13 rfl)))
  (e_Lok (ld_aload_n_0 (x_dk dn_366_0_3_ok 14 rfl))))
  (e_Tok2
  (e_Lok (lk_12_8g ho_366 (x_dk dn_366_0_3_ok 15 rfl)))
  (e_Lok (ld_aload_n_0 (x_dk dn_366_0_3_ok 16 rfl)))))
  (e_Tok2
  (e_Tok2
  (e_Lok (lk_12_651g ho_366 (x_dk dn_366_0_3_ok 17 rfl)))
  (e_Lok (ps_iconst_5 (x_dk dn_366_0_3_ok 18 rfl))))
  (e_Tok2
  (e_Lok (sm_iadd (x_dk dn_366_0_3_ok 19 rfl)))
  (e_Lok (sm_iaload (x_dk dn_366_0_3_ok 20 rfl))))))))
def te_366_96 : Nat → eE := (e_T 232 (e_T 214 (e_T 206 (e_T 204 (e_T 203 (e_L 203 (0, ei_bin eF_add 204, 0, 0)) (e_L 204 (0, ei_ald elay false 205, 0, 0))) (e_T 205 (e_L 205 (0, ei_load 1 0 206, 0, 0)) (e_L 206 (0, ei_if2 0 213 209, 0, 0)))) (e_T 210 (e_T 209 (e_L 209 (0, ei_push (0, 1) 210, 0, 0)) (e_L 210 (0, ei_goto 214, 0, 0))) (e_T 213 (e_L 213 (0, ei_push (0, 0) 214, 0, 0)) (e_L 214 (0, ei_putf eft elay 12 100 1 217, 0, 0))))) (e_T 224 (e_T 220 (e_T 217 (e_L 217 (0, ei_goto 220, 0, 0)) (e_L 220 (0, ei_load 0 2 221, 0, 0))) (e_T 221 (e_L 221 (0, ei_getf eft elay 12 100 224, 0, 0)) (e_L 224 (0, ei_if1 1 265 227, 0, 0)))) (e_T 228 (e_T 227 (e_L 227 (0, ei_load 0 2 228, 0, 0)) (e_L 228 (0, ei_getf eft elay 12 0 231, 0, 0))) (e_T 231 (e_L 231 (0, ei_load 0 2 232, 0, 0)) (e_L 232 (0, ei_getf eft elay 12 97 235, 0, 0)))))) (e_T 249 (e_T 241 (e_T 236 (e_T 235 (e_L 235 (0, ei_ald elay false 236, 0, 0)) (e_L 236 (0, ei_push (0, 6) 238, 0, 0))) (e_T 238 (e_L 238 (0, ei_if2 3 265 241, 0, 0)) (e_L 241 (0, ei_load 0 2 242, 0, 0)))) (e_T 245 (e_T 242 (e_L 242 (0, ei_getf eft elay 12 0 245, 0, 0)) (e_L 245 (0, ei_load 0 2 246, 0, 0))) (e_T 246 (e_L 246 (0, ei_getf eft elay 12 97 249, 0, 0)) (e_L 249 (0, ei_push (0, 1) 250, 0, 0))))) (e_T 255 (e_T 251 (e_T 250 (e_L 250 (0, ei_ast elay false 251, 0, 0)) (e_L 251 (0, ei_load 0 2 252, 0, 0))) (e_T 252 (e_L 252 (0, ei_getf eft elay 12 100 255, 0, 0)) (e_L 255 (0, ei_if1 1 265 258, 0, 0)))) (e_T 259 (e_T 258 (e_L 258 (0, ei_load 0 2 259, 0, 0)) (e_L 259 (2, e_nof, 373, 1))) (e_T 262 (e_L 262 (0, ei_goto 251, 0, 0)) (e_L 265 (1, e_nof, 0, 0)))))))
set_option maxRecDepth 20000 in
set_option maxHeartbeats 4000000 in
theorem te_366_96_ok : ∀ pc, e_EOq eft cls elay eI n_366 pc (te_366_96 pc) :=
  (e_Tok2
  (e_Tok2
  (e_Tok2
  (e_Tok2
  (e_Tok2
  (e_Lok (sm_iadd (x_dk dn_366_0_3_ok 21 rfl)))
  (e_Lok (sm_iaload (x_dk dn_366_0_3_ok 22 rfl))))
  (e_Tok2
  (e_Lok (ld_iload_n_1 (x_dk dn_366_0_3_ok 23 rfl)))
  (e_Lok (e_st (I := eI) (er_icmpeq (off := 7) (tg := 213) (x_dk dn_366_0_3_ok 24 rfl) (by decide)) nx_if2))))
  (e_Tok2
  (e_Tok2
  (e_Lok (ps_iconst_1 (x_dk dn_366_1_0_ok 0 rfl)))
  (e_Lok (e_st (I := eI) (er_goto (off := 4) (tg := 214) (x_dk dn_366_1_0_ok 1 rfl) (by decide)) nx_goto)))
  (e_Tok2
  (e_Lok (ps_iconst_0 (x_dk dn_366_1_0_ok 2 rfl)))
  (e_Lok (lk_12_669p ho_366 (x_dk dn_366_1_0_ok 3 rfl))))))
  (e_Tok2
  (e_Tok2
  (e_Tok2
  (e_Lok (e_st (I := eI) (er_goto (off := 3) (tg := 220) (x_dk dn_366_1_0_ok 4 rfl) (by decide)) nx_goto))
  (e_Lok (ld_aload_n_0 (x_dk dn_366_1_0_ok 5 rfl))))
  (e_Tok2
  (e_Lok (lk_12_669g ho_366 (x_dk dn_366_1_0_ok 6 rfl)))
  (e_Lok (e_st (I := eI) (er_ifne (off := 41) (tg := 265) (x_dk dn_366_1_0_ok 7 rfl) (by decide)) nx_if1))))
  (e_Tok2
  (e_Tok2
  (e_Lok (ld_aload_n_0 (x_dk dn_366_1_0_ok 8 rfl)))
  (e_Lok (lk_12_8g ho_366 (x_dk dn_366_1_0_ok 9 rfl))))
  (e_Tok2
  (e_Lok (ld_aload_n_0 (x_dk dn_366_1_0_ok 10 rfl)))
  (e_Lok (lk_12_651g ho_366 (x_dk dn_366_1_0_ok 11 rfl)))))))
  (e_Tok2
  (e_Tok2
  (e_Tok2
  (e_Tok2
  (e_Lok (sm_iaload (x_dk dn_366_1_0_ok 12 rfl)))
  (e_Lok (ps_bipush_6 (x_dk dn_366_1_0_ok 13 rfl))))
  (e_Tok2
  (e_Lok (e_st (I := eI) (er_icmpge (off := 27) (tg := 265) (x_dk dn_366_1_0_ok 14 rfl) (by decide)) nx_if2))
  (e_Lok (ld_aload_n_0 (x_dk dn_366_1_0_ok 15 rfl)))))
  (e_Tok2
  (e_Tok2
  (e_Lok (lk_12_8g ho_366 (x_dk dn_366_1_0_ok 16 rfl)))
  (e_Lok (ld_aload_n_0 (x_dk dn_366_1_0_ok 17 rfl))))
  (e_Tok2
  (e_Lok (lk_12_651g ho_366 (x_dk dn_366_1_0_ok 18 rfl)))
  (e_Lok (ps_iconst_1 (x_dk dn_366_1_0_ok 19 rfl))))))
  (e_Tok2
  (e_Tok2
  (e_Tok2
  (e_Lok (sm_iastore (x_dk dn_366_1_0_ok 20 rfl)))
  (e_Lok (ld_aload_n_0 (x_dk dn_366_1_0_ok 21 rfl))))
  (e_Tok2
  (e_Lok (lk_12_669g ho_366 (x_dk dn_366_1_0_ok 22 rfl)))
  (e_Lok (e_st (I := eI) (er_ifne (off := 10) (tg := 265) (x_dk dn_366_1_0_ok 23 rfl) (by decide)) nx_if1))))
  (e_Tok2
  (e_Tok2
  (e_Lok (ld_aload_n_0 (x_dk dn_366_1_0_ok 24 rfl)))
  (e_Lok (lk_12_675 ho_366 (x_dk dn_366_1_1_ok 0 rfl))))
  (e_Tok2
  (e_Lok (e_st (I := eI) (er_goto (off := (-11)) (tg := 251) (x_dk dn_366_1_1_ok 1 rfl) (by decide)) nx_goto))
  (e_Lok (e_rt (I := eI) (k := 0) ⟨(x_dk dn_366_1_1_ok 2 rfl), rfl⟩)))))))
def te_366 : Nat → eE := (e_T 143 (e_T 84 te_366_0 te_366_32) (e_T 202 te_366_64 te_366_96))
theorem te_366_ok : ∀ pc, e_EOq eft cls elay eI n_366 pc (te_366 pc) := (e_Tok2 ((e_Tok2 (te_366_0_ok) (te_366_32_ok))) ((e_Tok2 (te_366_64_ok) (te_366_96_ok))))
theorem ho_367 : (xm_y n_367).cls = "RobotCellHouseModel" := rfl
def dn_367_0_0 : List (Nat × Instr × Nat) := [(0, .aload_n 0, 1), (1, .getfield 8, 3), (4, .aload_n 0, 1), (5, .getfield 651, 3), (8, .bipush 12, 2), (10, .iadd, 1), (11, .iaload, 1), (12, .bipush 20, 2), (14, .if_icmp .ne 10, 3), (17, .aload_n 0, 1), (18, .bipush 8, 2), (20, .invokevirtual 672, 3), (23, .return_, 1), (24, .aload_n 0, 1), (25, .getfield 8, 3), (28, .aload_n 0, 1), (29, .getfield 651, 3), (32, .bipush 12, 2), (34, .iadd, 1), (35, .dup2, 1), (36, .iaload, 1), (37, .iconst 1, 1), (38, .iadd, 1), (39, .iastore, 1), (40, .aload_n 0, 1)]
set_option maxRecDepth 20000 in
theorem dn_367_0_0_ok : dn_367_0_0.all (fun q => decide (decode (xm_b n_367) q.1 = .ok (q.2.1, q.2.2))) = true := xa_g_ok (by decide +kernel)
def dn_367_0_1 : List (Nat × Instr × Nat) := [(41, .aload_n 0, 1), (42, .getfield 198, 3), (45, .bipush 32, 2), (47, .aload_n 0, 1), (48, .getfield 663, 3), (51, .imul, 1), (52, .iload_n 1, 1), (53, .iadd, 1), (54, .iaload, 1), (55, .invokevirtual 678, 3), (58, .aload_n 0, 1), (59, .getfield 8, 3), (62, .aload_n 0, 1), (63, .invokevirtual 657, 3), (66, .iconst 1, 1), (67, .iadd, 1), (68, .iload_n 2, 1), (69, .iastore, 1), (70, .aload_n 0, 1), (71, .getfield 8, 3), (74, .aload_n 0, 1), (75, .getfield 651, 3), (78, .bipush 14, 2), (80, .iadd, 1), (81, .dup2, 1)]
set_option maxRecDepth 20000 in
theorem dn_367_0_1_ok : dn_367_0_1.all (fun q => decide (decode (xm_b n_367) q.1 = .ok (q.2.1, q.2.2))) = true := xa_g_ok (by decide +kernel)
def dn_367_0_2 : List (Nat × Instr × Nat) := [(82, .iaload, 1), (83, .iload_n 2, 1), (84, .iadd, 1), (85, .iastore, 1), (86, .return_, 1)]
set_option maxRecDepth 20000 in
theorem dn_367_0_2_ok : dn_367_0_2.all (fun q => decide (decode (xm_b n_367) q.1 = .ok (q.2.1, q.2.2))) = true := xa_g_ok (by decide +kernel)
def te_367_0 : Nat → eE := (e_T 23 (e_T 10 (e_T 4 (e_T 0 (e_L 0 (0, ei_load 0 2 1, 0, 0)) (e_T 1 (e_L 1 (0, ei_getf eft elay 12 0 4, 0, 0)) (e_L 4 (0, ei_load 0 2 5, 0, 0)))) (e_T 5 (e_L 5 (0, ei_getf eft elay 12 97 8, 0, 0)) (e_T 8 (e_L 8 (0, ei_push (0, 12) 10, 0, 0)) (e_L 10 (0, ei_bin eF_add 11, 0, 0))))) (e_T 14 (e_T 11 (e_L 11 (0, ei_ald elay false 12, 0, 0)) (e_T 12 (e_L 12 (0, ei_push (0, 20) 14, 0, 0)) (e_L 14 (0, ei_if2 1 24 17, 0, 0)))) (e_T 18 (e_T 17 (e_L 17 (0, ei_load 0 2 18, 0, 0)) (e_L 18 (0, ei_push (0, 8) 20, 0, 0))) (e_T 20 (e_L 20 (2, e_nof, 369, 2)) (e_L 23 (1, e_nof, 0, 0)))))) (e_T 35 (e_T 28 (e_T 24 (e_L 24 (0, ei_load 0 2 25, 0, 0)) (e_T 25 (e_L 25 (0, ei_getf eft elay 12 0 28, 0, 0)) (e_L 28 (0, ei_load 0 2 29, 0, 0)))) (e_T 32 (e_T 29 (e_L 29 (0, ei_getf eft elay 12 97 32, 0, 0)) (e_L 32 (0, ei_push (0, 12) 34, 0, 0))) (e_T 34 (e_L 34 (0, ei_bin eF_add 35, 0, 0)) (e_L 35 (0, ei_stk ef_dup2 36, 0, 0))))) (e_T 38 (e_T 36 (e_L 36 (0, ei_ald elay false 37, 0, 0)) (e_T 37 (e_L 37 (0, ei_push (0, 1) 38, 0, 0)) (e_L 38 (0, ei_bin eF_add 39, 0, 0)))) (e_T 40 (e_T 39 (e_L 39 (0, ei_ast elay false 40, 0, 0)) (e_L 40 (0, ei_load 0 2 41, 0, 0))) (e_T 41 (e_L 41 (0, ei_load 0 2 42, 0, 0)) (e_L 42 (0, ei_getf eft elay 12 74 45, 0, 0)))))))
set_option maxRecDepth 20000 in
set_option maxHeartbeats 4000000 in
theorem te_367_0_ok : ∀ pc, e_EOq eft cls elay eI n_367 pc (te_367_0 pc) :=
  (e_Tok2
  (e_Tok2
  (e_Tok2
  (e_Tok2
  (e_Lok (ld_aload_n_0 (x_dk dn_367_0_0_ok 0 rfl)))
  (e_Tok2
  (e_Lok (lk_12_8g ho_367 (x_dk dn_367_0_0_ok 1 rfl)))
  (e_Lok (ld_aload_n_0 (x_dk dn_367_0_0_ok 2 rfl)))))
  (e_Tok2
  (e_Lok (lk_12_651g ho_367 (x_dk dn_367_0_0_ok 3 rfl)))
  (e_Tok2
  (e_Lok (ps_bipush_12 (x_dk dn_367_0_0_ok 4 rfl)))
  (e_Lok (sm_iadd (x_dk dn_367_0_0_ok 5 rfl))))))
  (e_Tok2
  (e_Tok2
  (e_Lok (sm_iaload (x_dk dn_367_0_0_ok 6 rfl)))
  (e_Tok2
  (e_Lok (ps_bipush_20 (x_dk dn_367_0_0_ok 7 rfl)))
  (e_Lok (e_st (I := eI) (er_icmpne (off := 10) (tg := 24) (x_dk dn_367_0_0_ok 8 rfl) (by decide)) nx_if2))))
  (e_Tok2
  (e_Tok2
  (e_Lok (ld_aload_n_0 (x_dk dn_367_0_0_ok 9 rfl)))
  (e_Lok (ps_bipush_8 (x_dk dn_367_0_0_ok 10 rfl))))
  (e_Tok2
  (e_Lok (lk_12_672 ho_367 (x_dk dn_367_0_0_ok 11 rfl)))
  (e_Lok (e_rt (I := eI) (k := 0) ⟨(x_dk dn_367_0_0_ok 12 rfl), rfl⟩))))))
  (e_Tok2
  (e_Tok2
  (e_Tok2
  (e_Lok (ld_aload_n_0 (x_dk dn_367_0_0_ok 13 rfl)))
  (e_Tok2
  (e_Lok (lk_12_8g ho_367 (x_dk dn_367_0_0_ok 14 rfl)))
  (e_Lok (ld_aload_n_0 (x_dk dn_367_0_0_ok 15 rfl)))))
  (e_Tok2
  (e_Tok2
  (e_Lok (lk_12_651g ho_367 (x_dk dn_367_0_0_ok 16 rfl)))
  (e_Lok (ps_bipush_12 (x_dk dn_367_0_0_ok 17 rfl))))
  (e_Tok2
  (e_Lok (sm_iadd (x_dk dn_367_0_0_ok 18 rfl)))
  (e_Lok (e_st (I := eI) (er_dup2 (x_dk dn_367_0_0_ok 19 rfl)) (nx_stk bf_dup2))))))
  (e_Tok2
  (e_Tok2
  (e_Lok (sm_iaload (x_dk dn_367_0_0_ok 20 rfl)))
  (e_Tok2
  (e_Lok (ps_iconst_1 (x_dk dn_367_0_0_ok 21 rfl)))
  (e_Lok (sm_iadd (x_dk dn_367_0_0_ok 22 rfl)))))
  (e_Tok2
  (e_Tok2
  (e_Lok (sm_iastore (x_dk dn_367_0_0_ok 23 rfl)))
  (e_Lok (ld_aload_n_0 (x_dk dn_367_0_0_ok 24 rfl))))
  (e_Tok2
  (e_Lok (ld_aload_n_0 (x_dk dn_367_0_1_ok 0 rfl)))
  (e_Lok (lk_12_198g ho_367 (x_dk dn_367_0_1_ok 1 rfl))))))))
def te_367_27 : Nat → eE := (e_T 67 (e_T 54 (e_T 48 (e_T 45 (e_L 45 (0, ei_push (0, 32) 47, 0, 0)) (e_T 47 (e_L 47 (0, ei_load 0 2 48, 0, 0)) (e_L 48 (0, ei_getf eft elay 12 98 51, 0, 0)))) (e_T 52 (e_T 51 (e_L 51 (0, ei_bin eF_mul 52, 0, 0)) (e_L 52 (0, ei_load 1 0 53, 0, 0))) (e_T 53 (e_L 53 (0, ei_bin eF_add 54, 0, 0)) (e_L 54 (0, ei_ald elay false 55, 0, 0))))) (e_T 59 (e_T 55 (e_L 55 (2, e_nof, 365, 2)) (e_T 58 (e_L 58 (0, ei_load 0 2 59, 0, 0)) (e_L 59 (0, ei_getf eft elay 12 0 62, 0, 0)))) (e_T 63 (e_T 62 (e_L 62 (0, ei_load 0 2 63, 0, 0)) (e_L 63 (2, e_nof, 362, 1))) (e_T 66 (e_L 66 (0, ei_push (0, 1) 67, 0, 0)) (e_L 67 (0, ei_bin eF_add 68, 0, 0)))))) (e_T 78 (e_T 70 (e_T 68 (e_L 68 (0, ei_load 2 0 69, 0, 0)) (e_T 69 (e_L 69 (0, ei_ast elay false 70, 0, 0)) (e_L 70 (0, ei_load 0 2 71, 0, 0)))) (e_T 74 (e_T 71 (e_L 71 (0, ei_getf eft elay 12 0 74, 0, 0)) (e_L 74 (0, ei_load 0 2 75, 0, 0))) (e_T 75 (e_L 75 (0, ei_getf eft elay 12 97 78, 0, 0)) (e_L 78 (0, ei_push (0, 14) 80, 0, 0))))) (e_T 82 (e_T 80 (e_L 80 (0, ei_bin eF_add 81, 0, 0)) (e_T 81 (e_L 81 (0, ei_stk ef_dup2 82, 0, 0)) (e_L 82 (0, ei_ald elay false 83, 0, 0)))) (e_T 84 (e_T 83 (e_L 83 (0, ei_load 2 0 84, 0, 0)) (e_L 84 (0, ei_bin eF_add 85, 0, 0))) (e_T 85 (e_L 85 (0, ei_ast elay false 86, 0, 0)) (e_L 86 (1, e_nof, 0, 0)))))))
set_option maxRecDepth 20000 in
set_option maxHeartbeats 4000000 in
theorem te_367_27_ok : ∀ pc, e_EOq eft cls elay eI n_367 pc (te_367_27 pc) :=
  (e_Tok2
  (e_Tok2
  (e_Tok2
  (e_Tok2
  (e_Lok (ps_bipush_32 (x_dk dn_367_0_1_ok 2 rfl)))
  (e_Tok2
  (e_Lok (ld_aload_n_0 (x_dk dn_367_0_1_ok 3 rfl)))
  (e_Lok (lk_12_663g ho_367 (x_dk dn_367_0_1_ok 4 rfl)))))
  (e_Tok2
  (e_Tok2
  (e_Lok (sm_imul (x_dk dn_367_0_1_ok 5 rfl)))
  (e_Lok (ld_iload_n_1 (x_dk dn_367_0_1_ok 6 rfl))))
  (e_Tok2
  (e_Lok (sm_iadd (x_dk dn_367_0_1_ok 7 rfl)))
  (e_Lok (sm_iaload (x_dk dn_367_0_1_ok 8 rfl))))))
  (e_Tok2
  (e_Tok2
  (e_Lok (lk_12_678 ho_367 (x_dk dn_367_0_1_ok 9 rfl)))
  (e_Tok2
  (e_Lok (ld_aload_n_0 (x_dk dn_367_0_1_ok 10 rfl)))
  (e_Lok (lk_12_8g ho_367 (x_dk dn_367_0_1_ok 11 rfl)))))
  (e_Tok2
  (e_Tok2
  (e_Lok (ld_aload_n_0 (x_dk dn_367_0_1_ok 12 rfl)))
  (e_Lok (lk_12_657 ho_367 (x_dk dn_367_0_1_ok 13 rfl))))
  (e_Tok2
  (e_Lok (ps_iconst_1 (x_dk dn_367_0_1_ok 14 rfl)))
  (e_Lok (sm_iadd (x_dk dn_367_0_1_ok 15 rfl)))))))
  (e_Tok2
  (e_Tok2
  (e_Tok2
  (e_Lok (ld_iload_n_2 (x_dk dn_367_0_1_ok 16 rfl)))
  (e_Tok2
  (e_Lok (sm_iastore (x_dk dn_367_0_1_ok 17 rfl)))
  (e_Lok (ld_aload_n_0 (x_dk dn_367_0_1_ok 18 rfl)))))
  (e_Tok2
  (e_Tok2
  (e_Lok (lk_12_8g ho_367 (x_dk dn_367_0_1_ok 19 rfl)))
  (e_Lok (ld_aload_n_0 (x_dk dn_367_0_1_ok 20 rfl))))
  (e_Tok2
  (e_Lok (lk_12_651g ho_367 (x_dk dn_367_0_1_ok 21 rfl)))
  (e_Lok (ps_bipush_14 (x_dk dn_367_0_1_ok 22 rfl))))))
  (e_Tok2
  (e_Tok2
  (e_Lok (sm_iadd (x_dk dn_367_0_1_ok 23 rfl)))
  (e_Tok2
  (e_Lok (e_st (I := eI) (er_dup2 (x_dk dn_367_0_1_ok 24 rfl)) (nx_stk bf_dup2)))
  (e_Lok (sm_iaload (x_dk dn_367_0_2_ok 0 rfl)))))
  (e_Tok2
  (e_Tok2
  (e_Lok (ld_iload_n_2 (x_dk dn_367_0_2_ok 1 rfl)))
  (e_Lok (sm_iadd (x_dk dn_367_0_2_ok 2 rfl))))
  (e_Tok2
  (e_Lok (sm_iastore (x_dk dn_367_0_2_ok 3 rfl)))
  (e_Lok (e_rt (I := eI) (k := 0) ⟨(x_dk dn_367_0_2_ok 4 rfl), rfl⟩)))))))
def te_367 : Nat → eE := (e_T 42 te_367_0 te_367_27)
theorem te_367_ok : ∀ pc, e_EOq eft cls elay eI n_367 pc (te_367 pc) := (e_Tok2 (te_367_0_ok) (te_367_27_ok))
theorem ho_368 : (xm_y n_368).cls = "RobotCellHouseModel" := rfl
def dn_368_0_0 : List (Nat × Instr × Nat) := [(0, .aload_n 0, 1), (1, .iconst 0, 1), (2, .putfield 654, 3), (5, .aload_n 0, 1), (6, .getfield 666, 3), (9, .bipush 20, 2), (11, .if_icmp .ne 9, 3), (14, .aload_n 0, 1), (15, .iconst 1, 1), (16, .putfield 669, 3), (19, .return_, 1), (20, .aload_n 0, 1), (21, .getfield 8, 3), (24, .aload_n 0, 1), (25, .getfield 651, 3), (28, .bipush 8, 2), (30, .iadd, 1), (31, .iaload, 1), (32, .istore_n 1, 1), (33, .iload_n 1, 1), (34, .ifCond .lt 83, 3), (37, .aload_n 0, 1), (38, .getfield 8, 3), (41, .aload_n 0, 1), (42, .getfield 651, 3)]
set_option maxRecDepth 20000 in
theorem dn_368_0_0_ok : dn_368_0_0.all (fun q => decide (decode (xm_b n_368) q.1 = .ok (q.2.1, q.2.2))) = true := xa_g_ok (by decide +kernel)
def dn_368_0_1 : List (Nat × Instr × Nat) := [(45, .bipush 14, 2), (47, .iadd, 1), (48, .iaload, 1), (49, .ifCond .ne 68, 3), (52, .aload_n 0, 1), (53, .getfield 8, 3), (56, .sipush 352, 3), (59, .iload_n 1, 1), (60, .iadd, 1), (61, .iaload, 1), (62, .aload_n 0, 1), (63, .getfield 8, 3), (66, .aload_n 0, 1), (67, .getfield 651, 3), (70, .bipush 10, 2), (72, .iadd, 1), (73, .iaload, 1), (74, .if_icmp .eq 43, 3), (77, .aload_n 0, 1), (78, .getfield 8, 3), (81, .aload_n 0, 1), (82, .getfield 651, 3), (85, .bipush 10, 2), (87, .iadd, 1), (88, .aload_n 0, 1)]
set_option maxRecDepth 20000 in
theorem dn_368_0_1_ok : dn_368_0_1.all (fun q => decide (decode (xm_b n_368) q.1 = .ok (q.2.1, q.2.2))) = true := xa_g_ok (by decide +kernel)
def dn_368_0_2 : List (Nat × Instr × Nat) := [(89, .getfield 8, 3), (92, .sipush 352, 3), (95, .iload_n 1, 1), (96, .iadd, 1), (97, .iaload, 1), (98, .iastore, 1), (99, .aload_n 0, 1), (100, .aload_n 0, 1), (101, .getfield 8, 3), (104, .aload_n 0, 1), (105, .getfield 651, 3), (108, .bipush 9, 2), (110, .iadd, 1), (111, .iaload, 1), (112, .iconst 1, 1), (113, .invokevirtual 681, 3), (116, .return_, 1), (117, .aload_n 0, 1), (118, .dup, 1), (119, .getfield 666, 3), (122, .iconst 1, 1), (123, .iadd, 1), (124, .putfield 666, 3), (127, .aload_n 0, 1), (128, .aload_n 0, 1)]
set_option maxRecDepth 20000 in
theorem dn_368_0_2_ok : dn_368_0_2.all (fun q => decide (decode (xm_b n_368) q.1 = .ok (q.2.1, q.2.2))) = true := xa_g_ok (by decide +kernel)
def dn_368_0_3 : List (Nat × Instr × Nat) := [(129, .getfield 8, 3), (132, .aload_n 0, 1), (133, .invokevirtual 657, 3), (136, .iaload, 1), (137, .iconst 1, 1), (138, .iadd, 1), (139, .invokevirtual 678, 3), (142, .return_, 1)]
set_option maxRecDepth 20000 in
theorem dn_368_0_3_ok : dn_368_0_3.all (fun q => decide (decode (xm_b n_368) q.1 = .ok (q.2.1, q.2.2))) = true := xa_g_ok (by decide +kernel)
def te_368_0 : Nat → eE := (e_T 16 (e_T 6 (e_T 1 (e_T 0 (e_L 0 (0, ei_load 0 2 1, 0, 0)) (e_L 1 (0, ei_push (0, 0) 2, 0, 0))) (e_T 2 (e_L 2 (0, ei_putf eft elay 12 102 0 5, 0, 0)) (e_T 5 (e_L 5 (0, ei_load 0 2 6, 0, 0)) (e_L 6 (0, ei_getf eft elay 12 99 9, 0, 0))))) (e_T 11 (e_T 9 (e_L 9 (0, ei_push (0, 20) 11, 0, 0)) (e_L 11 (0, ei_if2 1 20 14, 0, 0))) (e_T 14 (e_L 14 (0, ei_load 0 2 15, 0, 0)) (e_T 15 (e_L 15 (0, ei_push (0, 1) 16, 0, 0)) (e_L 16 (0, ei_putf eft elay 12 100 1 19, 0, 0)))))) (e_T 25 (e_T 20 (e_T 19 (e_L 19 (1, e_nof, 0, 0)) (e_L 20 (0, ei_load 0 2 21, 0, 0))) (e_T 21 (e_L 21 (0, ei_getf eft elay 12 0 24, 0, 0)) (e_T 24 (e_L 24 (0, ei_load 0 2 25, 0, 0)) (e_L 25 (0, ei_getf eft elay 12 97 28, 0, 0))))) (e_T 30 (e_T 28 (e_L 28 (0, ei_push (0, 8) 30, 0, 0)) (e_L 30 (0, ei_bin eF_add 31, 0, 0))) (e_T 31 (e_L 31 (0, ei_ald elay false 32, 0, 0)) (e_T 32 (e_L 32 (0, ei_stor 1 0 33, 0, 0)) (e_L 33 (0, ei_load 1 0 34, 0, 0)))))))
set_option maxRecDepth 20000 in
set_option maxHeartbeats 4000000 in
theorem te_368_0_ok : ∀ pc, e_EOq eft cls elay eI n_368 pc (te_368_0 pc) :=
  (e_Tok2
  (e_Tok2
  (e_Tok2
  (e_Tok2
  (e_Lok (ld_aload_n_0 (x_dk dn_368_0_0_ok 0 rfl)))
  (e_Lok (ps_iconst_0 (x_dk dn_368_0_0_ok 1 rfl))))
  (e_Tok2
  (e_Lok (lk_12_654p ho_368 (x_dk dn_368_0_0_ok 2 rfl)))
  (e_Tok2
  (e_Lok (ld_aload_n_0 (x_dk dn_368_0_0_ok 3 rfl)))
  (e_Lok (lk_12_666g ho_368 (x_dk dn_368_0_0_ok 4 rfl))))))
  (e_Tok2
  (e_Tok2
  (e_Lok (ps_bipush_20 (x_dk dn_368_0_0_ok 5 rfl)))
  (e_Lok (e_st (I := eI) (er_icmpne (off := 9) (tg := 20) (x_dk dn_368_0_0_ok 6 rfl) (by decide)) nx_if2)))
  (e_Tok2
  (e_Lok (ld_aload_n_0 (x_dk dn_368_0_0_ok 7 rfl)))
  (e_Tok2
  (e_Lok (ps_iconst_1 (x_dk dn_368_0_0_ok 8 rfl)))
  (e_Lok (lk_12_669p ho_368 (x_dk dn_368_0_0_ok 9 rfl)))))))
  (e_Tok2
  (e_Tok2
  (e_Tok2
  (e_Lok (e_rt (I := eI) (k := 0) ⟨(x_dk dn_368_0_0_ok 10 rfl), rfl⟩))
  (e_Lok (ld_aload_n_0 (x_dk dn_368_0_0_ok 11 rfl))))
  (e_Tok2
  (e_Lok (lk_12_8g ho_368 (x_dk dn_368_0_0_ok 12 rfl)))
  (e_Tok2
  (e_Lok (ld_aload_n_0 (x_dk dn_368_0_0_ok 13 rfl)))
  (e_Lok (lk_12_651g ho_368 (x_dk dn_368_0_0_ok 14 rfl))))))
  (e_Tok2
  (e_Tok2
  (e_Lok (ps_bipush_8 (x_dk dn_368_0_0_ok 15 rfl)))
  (e_Lok (sm_iadd (x_dk dn_368_0_0_ok 16 rfl))))
  (e_Tok2
  (e_Lok (sm_iaload (x_dk dn_368_0_0_ok 17 rfl)))
  (e_Tok2
  (e_Lok (e_st (I := eI) (er_istore_n (i := 1) (x_dk dn_368_0_0_ok 18 rfl) (by decide +kernel)) nx_stor))
  (e_Lok (ld_iload_n_1 (x_dk dn_368_0_0_ok 19 rfl))))))))
def te_368_20 : Nat → eE := (e_T 52 (e_T 42 (e_T 37 (e_T 34 (e_L 34 (0, ei_if1 2 117 37, 0, 0)) (e_L 37 (0, ei_load 0 2 38, 0, 0))) (e_T 38 (e_L 38 (0, ei_getf eft elay 12 0 41, 0, 0)) (e_T 41 (e_L 41 (0, ei_load 0 2 42, 0, 0)) (e_L 42 (0, ei_getf eft elay 12 97 45, 0, 0))))) (e_T 47 (e_T 45 (e_L 45 (0, ei_push (0, 14) 47, 0, 0)) (e_L 47 (0, ei_bin eF_add 48, 0, 0))) (e_T 48 (e_L 48 (0, ei_ald elay false 49, 0, 0)) (e_T 49 (e_L 49 (0, ei_if1 1 117 52, 0, 0)) (e_L 52 (0, ei_load 0 2 53, 0, 0)))))) (e_T 61 (e_T 56 (e_T 53 (e_L 53 (0, ei_getf eft elay 12 0 56, 0, 0)) (e_L 56 (0, ei_push (0, 352) 59, 0, 0))) (e_T 59 (e_L 59 (0, ei_load 1 0 60, 0, 0)) (e_T 60 (e_L 60 (0, ei_bin eF_add 61, 0, 0)) (e_L 61 (0, ei_ald elay false 62, 0, 0))))) (e_T 66 (e_T 62 (e_L 62 (0, ei_load 0 2 63, 0, 0)) (e_T 63 (e_L 63 (0, ei_getf eft elay 12 0 66, 0, 0)) (e_L 66 (0, ei_load 0 2 67, 0, 0)))) (e_T 67 (e_L 67 (0, ei_getf eft elay 12 97 70, 0, 0)) (e_T 70 (e_L 70 (0, ei_push (0, 10) 72, 0, 0)) (e_L 72 (0, ei_bin eF_add 73, 0, 0)))))))
set_option maxRecDepth 20000 in
set_option maxHeartbeats 4000000 in
theorem te_368_20_ok : ∀ pc, e_EOq eft cls elay eI n_368 pc (te_368_20 pc) :=
  (e_Tok2
  (e_Tok2
  (e_Tok2
  (e_Tok2
  (e_Lok (e_st (I := eI) (er_iflt (off := 83) (tg := 117) (x_dk dn_368_0_0_ok 20 rfl) (by decide)) nx_if1))
  (e_Lok (ld_aload_n_0 (x_dk dn_368_0_0_ok 21 rfl))))
  (e_Tok2
  (e_Lok (lk_12_8g ho_368 (x_dk dn_368_0_0_ok 22 rfl)))
  (e_Tok2
  (e_Lok (ld_aload_n_0 (x_dk dn_368_0_0_ok 23 rfl)))
  (e_Lok (lk_12_651g ho_368 (x_dk dn_368_0_0_ok 24 rfl))))))
  (e_Tok2
  (e_Tok2
  (e_Lok (ps_bipush_14 (x_dk dn_368_0_1_ok 0 rfl)))
  (e_Lok (sm_iadd (x_dk dn_368_0_1_ok 1 rfl))))
  (e_Tok2
  (e_Lok (sm_iaload (x_dk dn_368_0_1_ok 2 rfl)))
  (e_Tok2
  (e_Lok (e_st (I := eI) (er_ifne (off := 68) (tg := 117) (x_dk dn_368_0_1_ok 3 rfl) (by decide)) nx_if1))
  (e_Lok (ld_aload_n_0 (x_dk dn_368_0_1_ok 4 rfl)))))))
  (e_Tok2
  (e_Tok2
  (e_Tok2
  (e_Lok (lk_12_8g ho_368 (x_dk dn_368_0_1_ok 5 rfl)))
  (e_Lok (ps_sipush_352 (x_dk dn_368_0_1_ok 6 rfl))))
  (e_Tok2
  (e_Lok (ld_iload_n_1 (x_dk dn_368_0_1_ok 7 rfl)))
  (e_Tok2
  (e_Lok (sm_iadd (x_dk dn_368_0_1_ok 8 rfl)))
  (e_Lok (sm_iaload (x_dk dn_368_0_1_ok 9 rfl))))))
  (e_Tok2
  (e_Tok2
  (e_Lok (ld_aload_n_0 (x_dk dn_368_0_1_ok 10 rfl)))
  (e_Tok2
  (e_Lok (lk_12_8g ho_368 (x_dk dn_368_0_1_ok 11 rfl)))
  (e_Lok (ld_aload_n_0 (x_dk dn_368_0_1_ok 12 rfl)))))
  (e_Tok2
  (e_Lok (lk_12_651g ho_368 (x_dk dn_368_0_1_ok 13 rfl)))
  (e_Tok2
  (e_Lok (ps_bipush_10 (x_dk dn_368_0_1_ok 14 rfl)))
  (e_Lok (sm_iadd (x_dk dn_368_0_1_ok 15 rfl))))))))
def te_368_41 : Nat → eE := (e_T 89 (e_T 81 (e_T 74 (e_T 73 (e_L 73 (0, ei_ald elay false 74, 0, 0)) (e_L 74 (0, ei_if2 0 117 77, 0, 0))) (e_T 77 (e_L 77 (0, ei_load 0 2 78, 0, 0)) (e_T 78 (e_L 78 (0, ei_getf eft elay 12 0 81, 0, 0)) (e_L 81 (0, ei_load 0 2 82, 0, 0))))) (e_T 85 (e_T 82 (e_L 82 (0, ei_getf eft elay 12 97 85, 0, 0)) (e_L 85 (0, ei_push (0, 10) 87, 0, 0))) (e_T 87 (e_L 87 (0, ei_bin eF_add 88, 0, 0)) (e_T 88 (e_L 88 (0, ei_load 0 2 89, 0, 0)) (e_L 89 (0, ei_getf eft elay 12 0 92, 0, 0)))))) (e_T 98 (e_T 95 (e_T 92 (e_L 92 (0, ei_push (0, 352) 95, 0, 0)) (e_L 95 (0, ei_load 1 0 96, 0, 0))) (e_T 96 (e_L 96 (0, ei_bin eF_add 97, 0, 0)) (e_T 97 (e_L 97 (0, ei_ald elay false 98, 0, 0)) (e_L 98 (0, ei_ast elay false 99, 0, 0))))) (e_T 101 (e_T 99 (e_L 99 (0, ei_load 0 2 100, 0, 0)) (e_T 100 (e_L 100 (0, ei_load 0 2 101, 0, 0)) (e_L 101 (0, ei_getf eft elay 12 0 104, 0, 0)))) (e_T 104 (e_L 104 (0, ei_load 0 2 105, 0, 0)) (e_T 105 (e_L 105 (0, ei_getf eft elay 12 97 108, 0, 0)) (e_L 108 (0, ei_push (0, 9) 110, 0, 0)))))))
set_option maxRecDepth 20000 in
set_option maxHeartbeats 4000000 in
theorem te_368_41_ok : ∀ pc, e_EOq eft cls elay eI n_368 pc (te_368_41 pc) :=
  (e_Tok2
  (e_Tok2
  (e_Tok2
  (e_Tok2
  (e_Lok (sm_iaload (x_dk dn_368_0_1_ok 16 rfl)))
  (e_Lok (e_st (I := eI) (er_icmpeq (off := 43) (tg := 117) (x_dk dn_368_0_1_ok 17 rfl) (by decide)) nx_if2)))
  (e_Tok2
  (e_Lok (ld_aload_n_0 (x_dk dn_368_0_1_ok 18 rfl)))
  (e_Tok2
  (e_Lok (lk_12_8g ho_368 (x_dk dn_368_0_1_ok 19 rfl)))
  (e_Lok (ld_aload_n_0 (x_dk dn_368_0_1_ok 20 rfl))))))
  (e_Tok2
  (e_Tok2
  (e_Lok (lk_12_651g ho_368 (x_dk dn_368_0_1_ok 21 rfl)))
  (e_Lok (ps_bipush_10 (x_dk dn_368_0_1_ok 22 rfl))))
  (e_Tok2
  (e_Lok (sm_iadd (x_dk dn_368_0_1_ok 23 rfl)))
  (e_Tok2
  (e_Lok (ld_aload_n_0 (x_dk dn_368_0_1_ok 24 rfl)))
  (e_Lok (lk_12_8g ho_368 (x_dk dn_368_0_2_ok 0 rfl)))))))
  (e_Tok2
  (e_Tok2
  (e_Tok2
  (e_Lok (ps_sipush_352 (x_dk dn_368_0_2_ok 1 rfl)))
  (e_Lok (ld_iload_n_1 (x_dk dn_368_0_2_ok 2 rfl))))
  (e_Tok2
  (e_Lok (sm_iadd (x_dk dn_368_0_2_ok 3 rfl)))
  (e_Tok2
  (e_Lok (sm_iaload (x_dk dn_368_0_2_ok 4 rfl)))
  (e_Lok (sm_iastore (x_dk dn_368_0_2_ok 5 rfl))))))
  (e_Tok2
  (e_Tok2
  (e_Lok (ld_aload_n_0 (x_dk dn_368_0_2_ok 6 rfl)))
  (e_Tok2
  (e_Lok (ld_aload_n_0 (x_dk dn_368_0_2_ok 7 rfl)))
  (e_Lok (lk_12_8g ho_368 (x_dk dn_368_0_2_ok 8 rfl)))))
  (e_Tok2
  (e_Lok (ld_aload_n_0 (x_dk dn_368_0_2_ok 9 rfl)))
  (e_Tok2
  (e_Lok (lk_12_651g ho_368 (x_dk dn_368_0_2_ok 10 rfl)))
  (e_Lok (ps_bipush_9 (x_dk dn_368_0_2_ok 11 rfl))))))))
def te_368_62 : Nat → eE := (e_T 123 (e_T 116 (e_T 111 (e_T 110 (e_L 110 (0, ei_bin eF_add 111, 0, 0)) (e_L 111 (0, ei_ald elay false 112, 0, 0))) (e_T 112 (e_L 112 (0, ei_push (0, 1) 113, 0, 0)) (e_T 113 (e_L 113 (2, e_nof, 367, 3)) (e_L 116 (1, e_nof, 0, 0))))) (e_T 118 (e_T 117 (e_L 117 (0, ei_load 0 2 118, 0, 0)) (e_L 118 (0, ei_stk ef_dup 119, 0, 0))) (e_T 119 (e_L 119 (0, ei_getf eft elay 12 99 122, 0, 0)) (e_T 122 (e_L 122 (0, ei_push (0, 1) 123, 0, 0)) (e_L 123 (0, ei_bin eF_add 124, 0, 0)))))) (e_T 132 (e_T 127 (e_T 124 (e_L 124 (0, ei_putf eft elay 12 99 0 127, 0, 0)) (e_L 127 (0, ei_load 0 2 128, 0, 0))) (e_T 128 (e_L 128 (0, ei_load 0 2 129, 0, 0)) (e_T 129 (e_L 129 (0, ei_getf eft elay 12 0 132, 0, 0)) (e_L 132 (0, ei_load 0 2 133, 0, 0))))) (e_T 137 (e_T 133 (e_L 133 (2, e_nof, 362, 1)) (e_T 136 (e_L 136 (0, ei_ald elay false 137, 0, 0)) (e_L 137 (0, ei_push (0, 1) 138, 0, 0)))) (e_T 138 (e_L 138 (0, ei_bin eF_add 139, 0, 0)) (e_T 139 (e_L 139 (2, e_nof, 365, 2)) (e_L 142 (1, e_nof, 0, 0)))))))
set_option maxRecDepth 20000 in
set_option maxHeartbeats 4000000 in
theorem te_368_62_ok : ∀ pc, e_EOq eft cls elay eI n_368 pc (te_368_62 pc) :=
  (e_Tok2
  (e_Tok2
  (e_Tok2
  (e_Tok2
  (e_Lok (sm_iadd (x_dk dn_368_0_2_ok 12 rfl)))
  (e_Lok (sm_iaload (x_dk dn_368_0_2_ok 13 rfl))))
  (e_Tok2
  (e_Lok (ps_iconst_1 (x_dk dn_368_0_2_ok 14 rfl)))
  (e_Tok2
  (e_Lok (lk_12_681 ho_368 (x_dk dn_368_0_2_ok 15 rfl)))
  (e_Lok (e_rt (I := eI) (k := 0) ⟨(x_dk dn_368_0_2_ok 16 rfl), rfl⟩)))))
  (e_Tok2
  (e_Tok2
  (e_Lok (ld_aload_n_0 (x_dk dn_368_0_2_ok 17 rfl)))
  (e_Lok (e_st (I := eI) (er_dup (x_dk dn_368_0_2_ok 18 rfl)) (nx_stk bf_dup))))
  (e_Tok2
  (e_Lok (lk_12_666g ho_368 (x_dk dn_368_0_2_ok 19 rfl)))
  (e_Tok2
  (e_Lok (ps_iconst_1 (x_dk dn_368_0_2_ok 20 rfl)))
  (e_Lok (sm_iadd (x_dk dn_368_0_2_ok 21 rfl)))))))
  (e_Tok2
  (e_Tok2
  (e_Tok2
  (e_Lok (lk_12_666p ho_368 (x_dk dn_368_0_2_ok 22 rfl)))
  (e_Lok (ld_aload_n_0 (x_dk dn_368_0_2_ok 23 rfl))))
  (e_Tok2
  (e_Lok (ld_aload_n_0 (x_dk dn_368_0_2_ok 24 rfl)))
  (e_Tok2
  (e_Lok (lk_12_8g ho_368 (x_dk dn_368_0_3_ok 0 rfl)))
  (e_Lok (ld_aload_n_0 (x_dk dn_368_0_3_ok 1 rfl))))))
  (e_Tok2
  (e_Tok2
  (e_Lok (lk_12_657 ho_368 (x_dk dn_368_0_3_ok 2 rfl)))
  (e_Tok2
  (e_Lok (sm_iaload (x_dk dn_368_0_3_ok 3 rfl)))
  (e_Lok (ps_iconst_1 (x_dk dn_368_0_3_ok 4 rfl)))))
  (e_Tok2
  (e_Lok (sm_iadd (x_dk dn_368_0_3_ok 5 rfl)))
  (e_Tok2
  (e_Lok (lk_12_678 ho_368 (x_dk dn_368_0_3_ok 6 rfl)))
  (e_Lok (e_rt (I := eI) (k := 0) ⟨(x_dk dn_368_0_3_ok 7 rfl), rfl⟩)))))))
def te_368 : Nat → eE := (e_T 72 (e_T 33 te_368_0 te_368_20) (e_T 108 te_368_41 te_368_62))
theorem te_368_ok : ∀ pc, e_EOq eft cls elay eI n_368 pc (te_368 pc) := (e_Tok2 ((e_Tok2 (te_368_0_ok) (te_368_20_ok))) ((e_Tok2 (te_368_41_ok) (te_368_62_ok))))
theorem ho_369 : (xm_y n_369).cls = "RobotCellHouseModel" := rfl
def dn_369_0_0 : List (Nat × Instr × Nat) := [(0, .aload_n 0, 1), (1, .aload_n 0, 1), (2, .getfield 177, 3), (5, .sipush 10000, 3), (8, .aload_n 0, 1), (9, .getfield 663, 3), (12, .imul, 1), (13, .aload_n 0, 1), (14, .getfield 8, 3), (17, .aload_n 0, 1), (18, .invokevirtual 657, 3), (21, .iaload, 1), (22, .iadd, 1), (23, .iaload, 1), (24, .iconst 1, 1), (25, .iload_n 1, 1), (26, .invokevirtual 684, 3), (29, .return_, 1)]
set_option maxRecDepth 20000 in
theorem dn_369_0_0_ok : dn_369_0_0.all (fun q => decide (decode (xm_b n_369) q.1 = .ok (q.2.1, q.2.2))) = true := xa_g_ok (by decide +kernel)
def te_369_0 : Nat → eE := (e_T 14 (e_T 5 (e_T 1 (e_T 0 (e_L 0 (0, ei_load 0 2 1, 0, 0)) (e_L 1 (0, ei_load 0 2 2, 0, 0))) (e_T 2 (e_L 2 (0, ei_getf eft elay 12 67 5, 0, 0)) (e_L 5 (0, ei_push (0, 10000) 8, 0, 0)))) (e_T 9 (e_T 8 (e_L 8 (0, ei_load 0 2 9, 0, 0)) (e_L 9 (0, ei_getf eft elay 12 98 12, 0, 0))) (e_T 12 (e_L 12 (0, ei_bin eF_mul 13, 0, 0)) (e_T 13 (e_L 13 (0, ei_load 0 2 14, 0, 0)) (e_L 14 (0, ei_getf eft elay 12 0 17, 0, 0)))))) (e_T 22 (e_T 18 (e_T 17 (e_L 17 (0, ei_load 0 2 18, 0, 0)) (e_L 18 (2, e_nof, 362, 1))) (e_T 21 (e_L 21 (0, ei_ald elay false 22, 0, 0)) (e_L 22 (0, ei_bin eF_add 23, 0, 0)))) (e_T 24 (e_T 23 (e_L 23 (0, ei_ald elay false 24, 0, 0)) (e_L 24 (0, ei_push (0, 1) 25, 0, 0))) (e_T 25 (e_L 25 (0, ei_load 1 0 26, 0, 0)) (e_T 26 (e_L 26 (2, e_nof, 371, 4)) (e_L 29 (1, e_nof, 0, 0)))))))
set_option maxRecDepth 20000 in
set_option maxHeartbeats 4000000 in
theorem te_369_0_ok : ∀ pc, e_EOq eft cls elay eI n_369 pc (te_369_0 pc) :=
  (e_Tok2
  (e_Tok2
  (e_Tok2
  (e_Tok2
  (e_Lok (ld_aload_n_0 (x_dk dn_369_0_0_ok 0 rfl)))
  (e_Lok (ld_aload_n_0 (x_dk dn_369_0_0_ok 1 rfl))))
  (e_Tok2
  (e_Lok (lk_12_177g ho_369 (x_dk dn_369_0_0_ok 2 rfl)))
  (e_Lok (ps_sipush_10000 (x_dk dn_369_0_0_ok 3 rfl)))))
  (e_Tok2
  (e_Tok2
  (e_Lok (ld_aload_n_0 (x_dk dn_369_0_0_ok 4 rfl)))
  (e_Lok (lk_12_663g ho_369 (x_dk dn_369_0_0_ok 5 rfl))))
  (e_Tok2
  (e_Lok (sm_imul (x_dk dn_369_0_0_ok 6 rfl)))
  (e_Tok2
  (e_Lok (ld_aload_n_0 (x_dk dn_369_0_0_ok 7 rfl)))
  (e_Lok (lk_12_8g ho_369 (x_dk dn_369_0_0_ok 8 rfl)))))))
  (e_Tok2
  (e_Tok2
  (e_Tok2
  (e_Lok (ld_aload_n_0 (x_dk dn_369_0_0_ok 9 rfl)))
  (e_Lok (lk_12_657 ho_369 (x_dk dn_369_0_0_ok 10 rfl))))
  (e_Tok2
  (e_Lok (sm_iaload (x_dk dn_369_0_0_ok 11 rfl)))
  (e_Lok (sm_iadd (x_dk dn_369_0_0_ok 12 rfl)))))
  (e_Tok2
  (e_Tok2
  (e_Lok (sm_iaload (x_dk dn_369_0_0_ok 13 rfl)))
  (e_Lok (ps_iconst_1 (x_dk dn_369_0_0_ok 14 rfl))))
  (e_Tok2
  (e_Lok (ld_iload_n_1 (x_dk dn_369_0_0_ok 15 rfl)))
  (e_Tok2
  (e_Lok (lk_12_684 ho_369 (x_dk dn_369_0_0_ok 16 rfl)))
  (e_Lok (e_rt (I := eI) (k := 0) ⟨(x_dk dn_369_0_0_ok 17 rfl), rfl⟩)))))))
def te_369 : Nat → eE := te_369_0
theorem te_369_ok : ∀ pc, e_EOq eft cls elay eI n_369 pc (te_369 pc) := te_369_0_ok
theorem ho_370 : (xm_y n_370).cls = "RobotCellHouseModel" := rfl
def dn_370_0_0 : List (Nat × Instr × Nat) := [(0, .aload_n 0, 1), (1, .getfield 651, 3), (4, .bipush 60, 2), (6, .iadd, 1), (7, .iconst 2, 1), (8, .aload_n 0, 1), (9, .getfield 8, 3), (12, .aload_n 0, 1), (13, .getfield 651, 3), (16, .bipush 13, 2), (18, .iadd, 1), (19, .iaload, 1), (20, .imul, 1), (21, .iadd, 1), (22, .istore_n 3, 1), (23, .aload_n 0, 1), (24, .getfield 8, 3), (27, .iload_n 3, 1), (28, .iload_n 1, 1), (29, .iastore, 1), (30, .aload_n 0, 1), (31, .getfield 8, 3), (34, .iload_n 3, 1), (35, .iconst 1, 1), (36, .iadd, 1)]
set_option maxRecDepth 20000 in
theorem dn_370_0_0_ok : dn_370_0_0.all (fun q => decide (decode (xm_b n_370) q.1 = .ok (q.2.1, q.2.2))) = true := xa_g_ok (by decide +kernel)
def dn_370_0_1 : List (Nat × Instr × Nat) := [(37, .iload_n 2, 1), (38, .iastore, 1), (39, .aload_n 0, 1), (40, .getfield 8, 3), (43, .aload_n 0, 1), (44, .getfield 651, 3), (47, .bipush 13, 2), (49, .iadd, 1), (50, .dup2, 1), (51, .iaload, 1), (52, .iconst 1, 1), (53, .iadd, 1), (54, .iastore, 1), (55, .return_, 1)]
set_option maxRecDepth 20000 in
theorem dn_370_0_1_ok : dn_370_0_1.all (fun q => decide (decode (xm_b n_370) q.1 = .ok (q.2.1, q.2.2))) = true := xa_g_ok (by decide +kernel)
def te_370_0 : Nat → eE := (e_T 28 (e_T 13 (e_T 6 (e_T 1 (e_T 0 (e_L 0 (0, ei_load 0 2 1, 0, 0)) (e_L 1 (0, ei_getf eft elay 12 97 4, 0, 0))) (e_T 4 (e_L 4 (0, ei_push (0, 60) 6, 0, 0)) (e_L 6 (0, ei_bin eF_add 7, 0, 0)))) (e_T 8 (e_T 7 (e_L 7 (0, ei_push (0, 2) 8, 0, 0)) (e_L 8 (0, ei_load 0 2 9, 0, 0))) (e_T 9 (e_L 9 (0, ei_getf eft elay 12 0 12, 0, 0)) (e_T 12 (e_L 12 (0, ei_load 0 2 13, 0, 0)) (e_L 13 (0, ei_getf eft elay 12 97 16, 0, 0)))))) (e_T 21 (e_T 18 (e_T 16 (e_L 16 (0, ei_push (0, 13) 18, 0, 0)) (e_L 18 (0, ei_bin eF_add 19, 0, 0))) (e_T 19 (e_L 19 (0, ei_ald elay false 20, 0, 0)) (e_T 20 (e_L 20 (0, ei_bin eF_mul 21, 0, 0)) (e_L 21 (0, ei_bin eF_add 22, 0, 0))))) (e_T 23 (e_T 22 (e_L 22 (0, ei_stor 3 0 23, 0, 0)) (e_L 23 (0, ei_load 0 2 24, 0, 0))) (e_T 24 (e_L 24 (0, ei_getf eft elay 12 0 27, 0, 0)) (e_T 27 (e_L 27 (0, ei_load 3 0 28, 0, 0)) (e_L 28 (0, ei_load 1 0 29, 0, 0))))))) (e_T 40 (e_T 35 (e_T 30 (e_T 29 (e_L 29 (0, ei_ast elay false 30, 0, 0)) (e_L 30 (0, ei_load 0 2 31, 0, 0))) (e_T 31 (e_L 31 (0, ei_getf eft elay 12 0 34, 0, 0)) (e_T 34 (e_L 34 (0, ei_load 3 0 35, 0, 0)) (e_L 35 (0, ei_push (0, 1) 36, 0, 0))))) (e_T 37 (e_T 36 (e_L 36 (0, ei_bin eF_add 37, 0, 0)) (e_L 37 (0, ei_load 2 0 38, 0, 0))) (e_T 38 (e_L 38 (0, ei_ast elay false 39, 0, 0)) (e_T 39 (e_L 39 (0, ei_load 0 2 40, 0, 0)) (e_L 40 (0, ei_getf eft elay 12 0 43, 0, 0)))))) (e_T 50 (e_T 44 (e_T 43 (e_L 43 (0, ei_load 0 2 44, 0, 0)) (e_L 44 (0, ei_getf eft elay 12 97 47, 0, 0))) (e_T 47 (e_L 47 (0, ei_push (0, 13) 49, 0, 0)) (e_T 49 (e_L 49 (0, ei_bin eF_add 50, 0, 0)) (e_L 50 (0, ei_stk ef_dup2 51, 0, 0))))) (e_T 52 (e_T 51 (e_L 51 (0, ei_ald elay false 52, 0, 0)) (e_L 52 (0, ei_push (0, 1) 53, 0, 0))) (e_T 53 (e_L 53 (0, ei_bin eF_add 54, 0, 0)) (e_T 54 (e_L 54 (0, ei_ast elay false 55, 0, 0)) (e_L 55 (1, e_nof, 0, 0))))))))
set_option maxRecDepth 20000 in
set_option maxHeartbeats 4000000 in
theorem te_370_0_ok : ∀ pc, e_EOq eft cls elay eI n_370 pc (te_370_0 pc) :=
  (e_Tok2
  (e_Tok2
  (e_Tok2
  (e_Tok2
  (e_Tok2
  (e_Lok (ld_aload_n_0 (x_dk dn_370_0_0_ok 0 rfl)))
  (e_Lok (lk_12_651g ho_370 (x_dk dn_370_0_0_ok 1 rfl))))
  (e_Tok2
  (e_Lok (ps_bipush_60 (x_dk dn_370_0_0_ok 2 rfl)))
  (e_Lok (sm_iadd (x_dk dn_370_0_0_ok 3 rfl)))))
  (e_Tok2
  (e_Tok2
  (e_Lok (ps_iconst_2 (x_dk dn_370_0_0_ok 4 rfl)))
  (e_Lok (ld_aload_n_0 (x_dk dn_370_0_0_ok 5 rfl))))
  (e_Tok2
  (e_Lok (lk_12_8g ho_370 (x_dk dn_370_0_0_ok 6 rfl)))
  (e_Tok2
  (e_Lok (ld_aload_n_0 (x_dk dn_370_0_0_ok 7 rfl)))
  (e_Lok (lk_12_651g ho_370 (x_dk dn_370_0_0_ok 8 rfl)))))))
  (e_Tok2
  (e_Tok2
  (e_Tok2
  (e_Lok (ps_bipush_13 (x_dk dn_370_0_0_ok 9 rfl)))
  (e_Lok (sm_iadd (x_dk dn_370_0_0_ok 10 rfl))))
  (e_Tok2
  (e_Lok (sm_iaload (x_dk dn_370_0_0_ok 11 rfl)))
  (e_Tok2
  (e_Lok (sm_imul (x_dk dn_370_0_0_ok 12 rfl)))
  (e_Lok (sm_iadd (x_dk dn_370_0_0_ok 13 rfl))))))
  (e_Tok2
  (e_Tok2
  (e_Lok (e_st (I := eI) (er_istore_n (i := 3) (x_dk dn_370_0_0_ok 14 rfl) (by decide +kernel)) nx_stor))
  (e_Lok (ld_aload_n_0 (x_dk dn_370_0_0_ok 15 rfl))))
  (e_Tok2
  (e_Lok (lk_12_8g ho_370 (x_dk dn_370_0_0_ok 16 rfl)))
  (e_Tok2
  (e_Lok (ld_iload_n_3 (x_dk dn_370_0_0_ok 17 rfl)))
  (e_Lok (ld_iload_n_1 (x_dk dn_370_0_0_ok 18 rfl))))))))
  (e_Tok2
  (e_Tok2
  (e_Tok2
  (e_Tok2
  (e_Lok (sm_iastore (x_dk dn_370_0_0_ok 19 rfl)))
  (e_Lok (ld_aload_n_0 (x_dk dn_370_0_0_ok 20 rfl))))
  (e_Tok2
  (e_Lok (lk_12_8g ho_370 (x_dk dn_370_0_0_ok 21 rfl)))
  (e_Tok2
  (e_Lok (ld_iload_n_3 (x_dk dn_370_0_0_ok 22 rfl)))
  (e_Lok (ps_iconst_1 (x_dk dn_370_0_0_ok 23 rfl))))))
  (e_Tok2
  (e_Tok2
  (e_Lok (sm_iadd (x_dk dn_370_0_0_ok 24 rfl)))
  (e_Lok (ld_iload_n_2 (x_dk dn_370_0_1_ok 0 rfl))))
  (e_Tok2
  (e_Lok (sm_iastore (x_dk dn_370_0_1_ok 1 rfl)))
  (e_Tok2
  (e_Lok (ld_aload_n_0 (x_dk dn_370_0_1_ok 2 rfl)))
  (e_Lok (lk_12_8g ho_370 (x_dk dn_370_0_1_ok 3 rfl)))))))
  (e_Tok2
  (e_Tok2
  (e_Tok2
  (e_Lok (ld_aload_n_0 (x_dk dn_370_0_1_ok 4 rfl)))
  (e_Lok (lk_12_651g ho_370 (x_dk dn_370_0_1_ok 5 rfl))))
  (e_Tok2
  (e_Lok (ps_bipush_13 (x_dk dn_370_0_1_ok 6 rfl)))
  (e_Tok2
  (e_Lok (sm_iadd (x_dk dn_370_0_1_ok 7 rfl)))
  (e_Lok (e_st (I := eI) (er_dup2 (x_dk dn_370_0_1_ok 8 rfl)) (nx_stk bf_dup2))))))
  (e_Tok2
  (e_Tok2
  (e_Lok (sm_iaload (x_dk dn_370_0_1_ok 9 rfl)))
  (e_Lok (ps_iconst_1 (x_dk dn_370_0_1_ok 10 rfl))))
  (e_Tok2
  (e_Lok (sm_iadd (x_dk dn_370_0_1_ok 11 rfl)))
  (e_Tok2
  (e_Lok (sm_iastore (x_dk dn_370_0_1_ok 12 rfl)))
  (e_Lok (e_rt (I := eI) (k := 0) ⟨(x_dk dn_370_0_1_ok 13 rfl), rfl⟩))))))))
def te_370 : Nat → eE := te_370_0
theorem te_370_ok : ∀ pc, e_EOq eft cls elay eI n_370 pc (te_370 pc) := te_370_0_ok
theorem ho_371 : (xm_y n_371).cls = "RobotCellHouseModel" := rfl
def dn_371_0_0 : List (Nat × Instr × Nat) := [(0, .aload_n 0, 1), (1, .iconst 0, 1), (2, .putfield 654, 3), (5, .iload_n 1, 1), (6, .istore 4, 2), (8, .iconst 1, 1), (9, .istore 5, 2), (11, .iload 5, 2), (13, .ifCond .eq 224, 3), (16, .iload_n 2, 1), (17, .iconst 3, 1), (18, .if_icmp .ne 43, 3), (21, .iload 4, 2), (23, .aload_n 0, 1), (24, .getfield 192, 3), (27, .sipush 900, 3), (30, .aload_n 0, 1), (31, .getfield 663, 3), (34, .imul, 1), (35, .iload_n 3, 1), (36, .iadd, 1), (37, .iaload, 1), (38, .if_icmp .ne 23, 3), (41, .aload_n 0, 1), (42, .aload_n 0, 1)]
set_option maxRecDepth 20000 in
theorem dn_371_0_0_ok : dn_371_0_0.all (fun q => decide (decode (xm_b n_371) q.1 = .ok (q.2.1, q.2.2))) = true := xa_g_ok (by decide +kernel)
def dn_371_0_1 : List (Nat × Instr × Nat) := [(43, .getfield 195, 3), (46, .sipush 900, 3), (49, .aload_n 0, 1), (50, .getfield 663, 3), (53, .imul, 1), (54, .iload_n 3, 1), (55, .iadd, 1), (56, .iaload, 1), (57, .invokevirtual 678, 3), (60, .return_, 1), (61, .iload 4, 2), (63, .ifCond .ge 27, 3), (66, .aload_n 0, 1), (67, .iload_n 2, 1), (68, .iload_n 3, 1), (69, .invokevirtual 687, 3), (72, .istore 4, 2), (74, .iload 4, 2), (76, .iconst (-1), 1), (77, .if_icmp .lt 7, 3), (80, .iconst 1, 1), (81, .goto 4, 3), (84, .iconst 0, 1), (85, .istore 5, 2), (87, .goto (-76), 3)]
set_option maxRecDepth 20000 in
theorem dn_371_0_1_ok : dn_371_0_1.all (fun q => decide (decode (xm_b n_371) q.1 = .ok (q.2.1, q.2.2))) = true := xa_g_ok (by decide +kernel)
def dn_371_0_2 : List (Nat × Instr × Nat) := [(90, .sipush 900, 3), (93, .aload_n 0, 1), (94, .getfield 663, 3), (97, .imul, 1), (98, .iload 4, 2), (100, .iconst 3, 1), (101, .idiv, 1), (102, .iadd, 1), (103, .istore 6, 2), (105, .iload 4, 2), (107, .iconst 3, 1), (108, .irem, 1), (109, .istore 7, 2), (111, .iload 7, 2), (113, .ifCond .ne 47, 3), (116, .iload_n 2, 1), (117, .iconst 1, 1), (118, .if_icmp .ne 42, 3), (121, .aload_n 0, 1), (122, .getfield 183, 3), (125, .iload 6, 2), (127, .iaload, 1), (128, .ifCond .lt 32, 3), (131, .aload_n 0, 1), (132, .getfield 8, 3)]
set_option maxRecDepth 20000 in
theorem dn_371_0_2_ok : dn_371_0_2.all (fun q => decide (decode (xm_b n_371) q.1 = .ok (q.2.1, q.2.2))) = true := xa_g_ok (by decide +kernel)
def dn_371_0_3 : List (Nat × Instr × Nat) := [(135, .aload_n 0, 1), (136, .getfield 651, 3), (139, .iconst 3, 1), (140, .iadd, 1), (141, .iload_n 3, 1), (142, .iastore, 1), (143, .aload_n 0, 1), (144, .aload_n 0, 1), (145, .getfield 183, 3), (148, .iload 6, 2), (150, .iaload, 1), (151, .invokevirtual 678, 3), (154, .iconst 0, 1), (155, .istore 5, 2), (157, .goto 77, 3), (160, .iload 7, 2), (162, .iconst 2, 1), (163, .if_icmp .ge 36, 3), (166, .aload_n 0, 1), (167, .getfield 186, 3), (170, .iload 6, 2), (172, .iaload, 1), (173, .ifCond .lt 26, 3), (176, .aload_n 0, 1), (177, .iload_n 2, 1)]
set_option maxRecDepth 20000 in
theorem dn_371_0_3_ok : dn_371_0_3.all (fun q => decide (decode (xm_b n_371) q.1 = .ok (q.2.1, q.2.2))) = true := xa_g_ok (by decide +kernel)
def dn_371_1_0 : List (Nat × Instr × Nat) := [(178, .iload_n 3, 1), (179, .invokevirtual 690, 3), (182, .aload_n 0, 1), (183, .aload_n 0, 1), (184, .getfield 186, 3), (187, .iload 6, 2), (189, .iaload, 1), (190, .invokevirtual 678, 3), (193, .iconst 0, 1), (194, .istore 5, 2), (196, .goto 38, 3), (199, .aload_n 0, 1), (200, .getfield 8, 3), (203, .aload_n 0, 1), (204, .getfield 651, 3), (207, .bipush 13, 2), (209, .iadd, 1), (210, .dup2, 1), (211, .iaload, 1), (212, .iload 7, 2), (214, .iconst 2, 1), (215, .if_icmp .ne 7, 3), (218, .iconst 1, 1), (219, .goto 4, 3), (222, .iconst 0, 1)]
set_option maxRecDepth 20000 in
theorem dn_371_1_0_ok : dn_371_1_0.all (fun q => decide (decode (xm_b n_371) q.1 = .ok (q.2.1, q.2.2))) = true := xa_g_ok (by decide +kernel)
def dn_371_1_1 : List (Nat × Instr × Nat) := [(223, .isub, 1), (224, .iastore, 1), (225, .aload_n 0, 1), (226, .getfield 180, 3), (229, .iload 6, 2), (231, .iaload, 1), (232, .istore 4, 2), (234, .goto (-223), 3), (237, .return_, 1)]
set_option maxRecDepth 20000 in
theorem dn_371_1_1_ok : dn_371_1_1.all (fun q => decide (decode (xm_b n_371) q.1 = .ok (q.2.1, q.2.2))) = true := xa_g_ok (by decide +kernel)
def te_371_0 : Nat → eE := (e_T 27 (e_T 11 (e_T 5 (e_T 1 (e_T 0 (e_L 0 (0, ei_load 0 2 1, 0, 0)) (e_L 1 (0, ei_push (0, 0) 2, 0, 0))) (e_T 2 (e_L 2 (0, ei_putf eft elay 12 102 0 5, 0, 0)) (e_L 5 (0, ei_load 1 0 6, 0, 0)))) (e_T 8 (e_T 6 (e_L 6 (0, ei_stor 4 0 8, 0, 0)) (e_L 8 (0, ei_push (0, 1) 9, 0, 0))) (e_T 9 (e_L 9 (0, ei_stor 5 0 11, 0, 0)) (e_L 11 (0, ei_load 5 0 13, 0, 0))))) (e_T 18 (e_T 16 (e_T 13 (e_L 13 (0, ei_if1 0 237 16, 0, 0)) (e_L 16 (0, ei_load 2 0 17, 0, 0))) (e_T 17 (e_L 17 (0, ei_push (0, 3) 18, 0, 0)) (e_L 18 (0, ei_if2 1 61 21, 0, 0)))) (e_T 23 (e_T 21 (e_L 21 (0, ei_load 4 0 23, 0, 0)) (e_L 23 (0, ei_load 0 2 24, 0, 0))) (e_T 24 (e_L 24 (0, ei_getf eft elay 12 72 27, 0, 0)) (e_L 27 (0, ei_push (0, 900) 30, 0, 0)))))) (e_T 41 (e_T 35 (e_T 31 (e_T 30 (e_L 30 (0, ei_load 0 2 31, 0, 0)) (e_L 31 (0, ei_getf eft elay 12 98 34, 0, 0))) (e_T 34 (e_L 34 (0, ei_bin eF_mul 35, 0, 0)) (e_L 35 (0, ei_load 3 0 36, 0, 0)))) (e_T 37 (e_T 36 (e_L 36 (0, ei_bin eF_add 37, 0, 0)) (e_L 37 (0, ei_ald elay false 38, 0, 0))) (e_T 38 (e_L 38 (0, ei_if2 1 61 41, 0, 0)) (e_L 41 (0, ei_load 0 2 42, 0, 0))))) (e_T 49 (e_T 43 (e_T 42 (e_L 42 (0, ei_load 0 2 43, 0, 0)) (e_L 43 (0, ei_getf eft elay 12 73 46, 0, 0))) (e_T 46 (e_L 46 (0, ei_push (0, 900) 49, 0, 0)) (e_L 49 (0, ei_load 0 2 50, 0, 0)))) (e_T 53 (e_T 50 (e_L 50 (0, ei_getf eft elay 12 98 53, 0, 0)) (e_L 53 (0, ei_bin eF_mul 54, 0, 0))) (e_T 54 (e_L 54 (0, ei_load 3 0 55, 0, 0)) (e_T 55 (e_L 55 (0, ei_bin eF_add 56, 0, 0)) (e_L 56 (0, ei_ald elay false 57, 0, 0))))))))
set_option maxRecDepth 20000 in
set_option maxHeartbeats 4000000 in
theorem te_371_0_ok : ∀ pc, e_EOq eft cls elay eI n_371 pc (te_371_0 pc) :=
  (e_Tok2
  (e_Tok2
  (e_Tok2
  (e_Tok2
  (e_Tok2
  (e_Lok (ld_aload_n_0 (x_dk dn_371_0_0_ok 0 rfl)))
  (e_Lok (ps_iconst_0 (x_dk dn_371_0_0_ok 1 rfl))))
  (e_Tok2
  (e_Lok (lk_12_654p ho_371 (x_dk dn_371_0_0_ok 2 rfl)))
  (e_Lok (ld_iload_n_1 (x_dk dn_371_0_0_ok 3 rfl)))))
  (e_Tok2
  (e_Tok2
  (e_Lok (e_st (I := eI) (er_istore (i := 4) (x_dk dn_371_0_0_ok 4 rfl) (by decide +kernel)) nx_stor))
  (e_Lok (ps_iconst_1 (x_dk dn_371_0_0_ok 5 rfl))))
  (e_Tok2
  (e_Lok (e_st (I := eI) (er_istore (i := 5) (x_dk dn_371_0_0_ok 6 rfl) (by decide +kernel)) nx_stor))
  (e_Lok (ld_iload_5 (x_dk dn_371_0_0_ok 7 rfl))))))
  (e_Tok2
  (e_Tok2
  (e_Tok2
  (e_Lok (e_st (I := eI) (er_ifeq (off := 224) (tg := 237) (x_dk dn_371_0_0_ok 8 rfl) (by decide)) nx_if1))
  (e_Lok (ld_iload_n_2 (x_dk dn_371_0_0_ok 9 rfl))))
  (e_Tok2
  (e_Lok (ps_iconst_3 (x_dk dn_371_0_0_ok 10 rfl)))
  (e_Lok (e_st (I := eI) (er_icmpne (off := 43) (tg := 61) (x_dk dn_371_0_0_ok 11 rfl) (by decide)) nx_if2))))
  (e_Tok2
  (e_Tok2
  (e_Lok (ld_iload_4 (x_dk dn_371_0_0_ok 12 rfl)))
  (e_Lok (ld_aload_n_0 (x_dk dn_371_0_0_ok 13 rfl))))
  (e_Tok2
  (e_Lok (lk_12_192g ho_371 (x_dk dn_371_0_0_ok 14 rfl)))
  (e_Lok (ps_sipush_900 (x_dk dn_371_0_0_ok 15 rfl)))))))
  (e_Tok2
  (e_Tok2
  (e_Tok2
  (e_Tok2
  (e_Lok (ld_aload_n_0 (x_dk dn_371_0_0_ok 16 rfl)))
  (e_Lok (lk_12_663g ho_371 (x_dk dn_371_0_0_ok 17 rfl))))
  (e_Tok2
  (e_Lok (sm_imul (x_dk dn_371_0_0_ok 18 rfl)))
  (e_Lok (ld_iload_n_3 (x_dk dn_371_0_0_ok 19 rfl)))))
  (e_Tok2
  (e_Tok2
  (e_Lok (sm_iadd (x_dk dn_371_0_0_ok 20 rfl)))
  (e_Lok (sm_iaload (x_dk dn_371_0_0_ok 21 rfl))))
  (e_Tok2
  (e_Lok (e_st (I := eI) (er_icmpne (off := 23) (tg := 61) (x_dk dn_371_0_0_ok 22 rfl) (by decide)) nx_if2))
  (e_Lok (ld_aload_n_0 (x_dk dn_371_0_0_ok 23 rfl))))))
  (e_Tok2
  (e_Tok2
  (e_Tok2
  (e_Lok (ld_aload_n_0 (x_dk dn_371_0_0_ok 24 rfl)))
  (e_Lok (lk_12_195g ho_371 (x_dk dn_371_0_1_ok 0 rfl))))
  (e_Tok2
  (e_Lok (ps_sipush_900 (x_dk dn_371_0_1_ok 1 rfl)))
  (e_Lok (ld_aload_n_0 (x_dk dn_371_0_1_ok 2 rfl)))))
  (e_Tok2
  (e_Tok2
  (e_Lok (lk_12_663g ho_371 (x_dk dn_371_0_1_ok 3 rfl)))
  (e_Lok (sm_imul (x_dk dn_371_0_1_ok 4 rfl))))
  (e_Tok2
  (e_Lok (ld_iload_n_3 (x_dk dn_371_0_1_ok 5 rfl)))
  (e_Tok2
  (e_Lok (sm_iadd (x_dk dn_371_0_1_ok 6 rfl)))
  (e_Lok (sm_iaload (x_dk dn_371_0_1_ok 7 rfl)))))))))
def te_371_33 : Nat → eE := (e_T 87 (e_T 69 (e_T 63 (e_T 60 (e_T 57 (e_L 57 (2, e_nof, 365, 2)) (e_L 60 (1, e_nof, 0, 0))) (e_T 61 (e_L 61 (0, ei_load 4 0 63, 0, 0)) (e_L 63 (0, ei_if1 3 90 66, 0, 0)))) (e_T 67 (e_T 66 (e_L 66 (0, ei_load 0 2 67, 0, 0)) (e_L 67 (0, ei_load 2 0 68, 0, 0))) (e_T 68 (e_L 68 (0, ei_load 3 0 69, 0, 0)) (e_L 69 (2, e_nof, 372, 3))))) (e_T 77 (e_T 74 (e_T 72 (e_L 72 (0, ei_stor 4 0 74, 0, 0)) (e_L 74 (0, ei_load 4 0 76, 0, 0))) (e_T 76 (e_L 76 (0, ei_push (0, (-1)) 77, 0, 0)) (e_L 77 (0, ei_if2 2 84 80, 0, 0)))) (e_T 81 (e_T 80 (e_L 80 (0, ei_push (0, 1) 81, 0, 0)) (e_L 81 (0, ei_goto 85, 0, 0))) (e_T 84 (e_L 84 (0, ei_push (0, 0) 85, 0, 0)) (e_T 85 (e_L 85 (0, ei_stor 5 0 87, 0, 0)) (e_L 87 (0, ei_goto 11, 0, 0))))))) (e_T 102 (e_T 97 (e_T 93 (e_T 90 (e_L 90 (0, ei_push (0, 900) 93, 0, 0)) (e_L 93 (0, ei_load 0 2 94, 0, 0))) (e_T 94 (e_L 94 (0, ei_getf eft elay 12 98 97, 0, 0)) (e_L 97 (0, ei_bin eF_mul 98, 0, 0)))) (e_T 100 (e_T 98 (e_L 98 (0, ei_load 4 0 100, 0, 0)) (e_L 100 (0, ei_push (0, 3) 101, 0, 0))) (e_T 101 (e_L 101 (0, ei_bin eF_div 102, 0, 0)) (e_L 102 (0, ei_bin eF_add 103, 0, 0))))) (e_T 108 (e_T 105 (e_T 103 (e_L 103 (0, ei_stor 6 0 105, 0, 0)) (e_L 105 (0, ei_load 4 0 107, 0, 0))) (e_T 107 (e_L 107 (0, ei_push (0, 3) 108, 0, 0)) (e_L 108 (0, ei_bin eF_rem 109, 0, 0)))) (e_T 111 (e_T 109 (e_L 109 (0, ei_stor 7 0 111, 0, 0)) (e_L 111 (0, ei_load 7 0 113, 0, 0))) (e_T 113 (e_L 113 (0, ei_if1 1 160 116, 0, 0)) (e_T 116 (e_L 116 (0, ei_load 2 0 117, 0, 0)) (e_L 117 (0, ei_push (0, 1) 118, 0, 0))))))))
set_option maxRecDepth 20000 in
set_option maxHeartbeats 4000000 in
theorem te_371_33_ok : ∀ pc, e_EOq eft cls elay eI n_371 pc (te_371_33 pc) :=
  (e_Tok2
  (e_Tok2
  (e_Tok2
  (e_Tok2
  (e_Tok2
  (e_Lok (lk_12_678 ho_371 (x_dk dn_371_0_1_ok 8 rfl)))
  (e_Lok (e_rt (I := eI) (k := 0) ⟨(x_dk dn_371_0_1_ok 9 rfl), rfl⟩)))
  (e_Tok2
  (e_Lok (ld_iload_4 (x_dk dn_371_0_1_ok 10 rfl)))
  (e_Lok (e_st (I := eI) (er_ifge (off := 27) (tg := 90) (x_dk dn_371_0_1_ok 11 rfl) (by decide)) nx_if1))))
  (e_Tok2
  (e_Tok2
  (e_Lok (ld_aload_n_0 (x_dk dn_371_0_1_ok 12 rfl)))
  (e_Lok (ld_iload_n_2 (x_dk dn_371_0_1_ok 13 rfl))))
  (e_Tok2
  (e_Lok (ld_iload_n_3 (x_dk dn_371_0_1_ok 14 rfl)))
  (e_Lok (lk_12_687 ho_371 (x_dk dn_371_0_1_ok 15 rfl))))))
  (e_Tok2
  (e_Tok2
  (e_Tok2
  (e_Lok (e_st (I := eI) (er_istore (i := 4) (x_dk dn_371_0_1_ok 16 rfl) (by decide +kernel)) nx_stor))
  (e_Lok (ld_iload_4 (x_dk dn_371_0_1_ok 17 rfl))))
  (e_Tok2
  (e_Lok (ps_iconst_m1 (x_dk dn_371_0_1_ok 18 rfl)))
  (e_Lok (e_st (I := eI) (er_icmplt (off := 7) (tg := 84) (x_dk dn_371_0_1_ok 19 rfl) (by decide)) nx_if2))))
  (e_Tok2
  (e_Tok2
  (e_Lok (ps_iconst_1 (x_dk dn_371_0_1_ok 20 rfl)))
  (e_Lok (e_st (I := eI) (er_goto (off := 4) (tg := 85) (x_dk dn_371_0_1_ok 21 rfl) (by decide)) nx_goto)))
  (e_Tok2
  (e_Lok (ps_iconst_0 (x_dk dn_371_0_1_ok 22 rfl)))
  (e_Tok2
  (e_Lok (e_st (I := eI) (er_istore (i := 5) (x_dk dn_371_0_1_ok 23 rfl) (by decide +kernel)) nx_stor))
  (e_Lok (e_st (I := eI) (er_goto (off := (-76)) (tg := 11) (x_dk dn_371_0_1_ok 24 rfl) (by decide)) nx_goto)))))))
  (e_Tok2
  (e_Tok2
  (e_Tok2
  (e_Tok2
  (e_Lok (ps_sipush_900 (x_dk dn_371_0_2_ok 0 rfl)))
  (e_Lok (ld_aload_n_0 (x_dk dn_371_0_2_ok 1 rfl))))
  (e_Tok2
  (e_Lok (lk_12_663g ho_371 (x_dk dn_371_0_2_ok 2 rfl)))
  (e_Lok (sm_imul (x_dk dn_371_0_2_ok 3 rfl)))))
  (e_Tok2
  (e_Tok2
  (e_Lok (ld_iload_4 (x_dk dn_371_0_2_ok 4 rfl)))
  (e_Lok (ps_iconst_3 (x_dk dn_371_0_2_ok 5 rfl))))
  (e_Tok2
  (e_Lok (e_st (I := eI) (er_idiv (x_dk dn_371_0_2_ok 6 rfl)) nx_bin))
  (e_Lok (sm_iadd (x_dk dn_371_0_2_ok 7 rfl))))))
  (e_Tok2
  (e_Tok2
  (e_Tok2
  (e_Lok (e_st (I := eI) (er_istore (i := 6) (x_dk dn_371_0_2_ok 8 rfl) (by decide +kernel)) nx_stor))
  (e_Lok (ld_iload_4 (x_dk dn_371_0_2_ok 9 rfl))))
  (e_Tok2
  (e_Lok (ps_iconst_3 (x_dk dn_371_0_2_ok 10 rfl)))
  (e_Lok (e_st (I := eI) (er_irem (x_dk dn_371_0_2_ok 11 rfl)) nx_bin))))
  (e_Tok2
  (e_Tok2
  (e_Lok (e_st (I := eI) (er_istore (i := 7) (x_dk dn_371_0_2_ok 12 rfl) (by decide +kernel)) nx_stor))
  (e_Lok (ld_iload_7 (x_dk dn_371_0_2_ok 13 rfl))))
  (e_Tok2
  (e_Lok (e_st (I := eI) (er_ifne (off := 47) (tg := 160) (x_dk dn_371_0_2_ok 14 rfl) (by decide)) nx_if1))
  (e_Tok2
  (e_Lok (ld_iload_n_2 (x_dk dn_371_0_2_ok 15 rfl)))
  (e_Lok (ps_iconst_1 (x_dk dn_371_0_2_ok 16 rfl)))))))))
def te_371_67 : Nat → eE := (e_T 144 (e_T 132 (e_T 125 (e_T 121 (e_T 118 (e_L 118 (0, ei_if2 1 160 121, 0, 0)) (e_L 121 (0, ei_load 0 2 122, 0, 0))) (e_T 122 (e_L 122 (0, ei_getf eft elay 12 69 125, 0, 0)) (e_L 125 (0, ei_load 6 0 127, 0, 0)))) (e_T 128 (e_T 127 (e_L 127 (0, ei_ald elay false 128, 0, 0)) (e_L 128 (0, ei_if1 2 160 131, 0, 0))) (e_T 131 (e_L 131 (0, ei_load 0 2 132, 0, 0)) (e_L 132 (0, ei_getf eft elay 12 0 135, 0, 0))))) (e_T 140 (e_T 136 (e_T 135 (e_L 135 (0, ei_load 0 2 136, 0, 0)) (e_L 136 (0, ei_getf eft elay 12 97 139, 0, 0))) (e_T 139 (e_L 139 (0, ei_push (0, 3) 140, 0, 0)) (e_L 140 (0, ei_bin eF_add 141, 0, 0)))) (e_T 142 (e_T 141 (e_L 141 (0, ei_load 3 0 142, 0, 0)) (e_L 142 (0, ei_ast elay false 143, 0, 0))) (e_T 143 (e_L 143 (0, ei_load 0 2 144, 0, 0)) (e_L 144 (0, ei_load 0 2 145, 0, 0)))))) (e_T 160 (e_T 151 (e_T 148 (e_T 145 (e_L 145 (0, ei_getf eft elay 12 69 148, 0, 0)) (e_L 148 (0, ei_load 6 0 150, 0, 0))) (e_T 150 (e_L 150 (0, ei_ald elay false 151, 0, 0)) (e_L 151 (2, e_nof, 365, 2)))) (e_T 155 (e_T 154 (e_L 154 (0, ei_push (0, 0) 155, 0, 0)) (e_L 155 (0, ei_stor 5 0 157, 0, 0))) (e_T 157 (e_L 157 (0, ei_goto 234, 0, 0)) (e_L 160 (0, ei_load 7 0 162, 0, 0))))) (e_T 167 (e_T 163 (e_T 162 (e_L 162 (0, ei_push (0, 2) 163, 0, 0)) (e_L 163 (0, ei_if2 3 199 166, 0, 0))) (e_T 166 (e_L 166 (0, ei_load 0 2 167, 0, 0)) (e_L 167 (0, ei_getf eft elay 12 70 170, 0, 0)))) (e_T 172 (e_T 170 (e_L 170 (0, ei_load 6 0 172, 0, 0)) (e_L 172 (0, ei_ald elay false 173, 0, 0))) (e_T 173 (e_L 173 (0, ei_if1 2 199 176, 0, 0)) (e_T 176 (e_L 176 (0, ei_load 0 2 177, 0, 0)) (e_L 177 (0, ei_load 2 0 178, 0, 0))))))))
set_option maxRecDepth 20000 in
set_option maxHeartbeats 4000000 in
theorem te_371_67_ok : ∀ pc, e_EOq eft cls elay eI n_371 pc (te_371_67 pc) :=
  (e_Tok2
  (e_Tok2
  (e_Tok2
  (e_Tok2
  (e_Tok2
  (e_Lok (e_st (I := eI) (er_icmpne (off := 42) (tg := 160) (x_dk dn_371_0_2_ok 17 rfl) (by decide)) nx_if2))
  (e_Lok (ld_aload_n_0 (x_dk dn_371_0_2_ok 18 rfl))))
  (e_Tok2
  (e_Lok (lk_12_183g ho_371 (x_dk dn_371_0_2_ok 19 rfl)))
  (e_Lok (ld_iload_6 (x_dk dn_371_0_2_ok 20 rfl)))))
  (e_Tok2
  (e_Tok2
  (e_Lok (sm_iaload (x_dk dn_371_0_2_ok 21 rfl)))
  (e_Lok (e_st (I := eI) (er_iflt (off := 32) (tg := 160) (x_dk dn_371_0_2_ok 22 rfl) (by decide)) nx_if1)))
  (e_Tok2
  (e_Lok (ld_aload_n_0 (x_dk dn_371_0_2_ok 23 rfl)))
  (e_Lok (lk_12_8g ho_371 (x_dk dn_371_0_2_ok 24 rfl))))))
  (e_Tok2
  (e_Tok2
  (e_Tok2
  (e_Lok (ld_aload_n_0 (x_dk dn_371_0_3_ok 0 rfl)))
  (e_Lok (lk_12_651g ho_371 (x_dk dn_371_0_3_ok 1 rfl))))
  (e_Tok2
  (e_Lok (ps_iconst_3 (x_dk dn_371_0_3_ok 2 rfl)))
  (e_Lok (sm_iadd (x_dk dn_371_0_3_ok 3 rfl)))))
  (e_Tok2
  (e_Tok2
  (e_Lok (ld_iload_n_3 (x_dk dn_371_0_3_ok 4 rfl)))
  (e_Lok (sm_iastore (x_dk dn_371_0_3_ok 5 rfl))))
  (e_Tok2
  (e_Lok (ld_aload_n_0 (x_dk dn_371_0_3_ok 6 rfl)))
  (e_Lok (ld_aload_n_0 (x_dk dn_371_0_3_ok 7 rfl)))))))
  (e_Tok2
  (e_Tok2
  (e_Tok2
  (e_Tok2
  (e_Lok (lk_12_183g ho_371 (x_dk dn_371_0_3_ok 8 rfl)))
  (e_Lok (ld_iload_6 (x_dk dn_371_0_3_ok 9 rfl))))
  (e_Tok2
  (e_Lok (sm_iaload (x_dk dn_371_0_3_ok 10 rfl)))
  (e_Lok (lk_12_678 ho_371 (x_dk dn_371_0_3_ok 11 rfl)))))
  (e_Tok2
  (e_Tok2
  (e_Lok (ps_iconst_0 (x_dk dn_371_0_3_ok 12 rfl)))
  (e_Lok (e_st (I := eI) (er_istore (i := 5) (x_dk dn_371_0_3_ok 13 rfl) (by decide +kernel)) nx_stor)))
  (e_Tok2
  (e_Lok (e_st (I := eI) (er_goto (off := 77) (tg := 234) (x_dk dn_371_0_3_ok 14 rfl) (by decide)) nx_goto))
  (e_Lok (ld_iload_7 (x_dk dn_371_0_3_ok 15 rfl))))))
  (e_Tok2
  (e_Tok2
  (e_Tok2
  (e_Lok (ps_iconst_2 (x_dk dn_371_0_3_ok 16 rfl)))
  (e_Lok (e_st (I := eI) (er_icmpge (off := 36) (tg := 199) (x_dk dn_371_0_3_ok 17 rfl) (by decide)) nx_if2)))
  (e_Tok2
  (e_Lok (ld_aload_n_0 (x_dk dn_371_0_3_ok 18 rfl)))
  (e_Lok (lk_12_186g ho_371 (x_dk dn_371_0_3_ok 19 rfl)))))
  (e_Tok2
  (e_Tok2
  (e_Lok (ld_iload_6 (x_dk dn_371_0_3_ok 20 rfl)))
  (e_Lok (sm_iaload (x_dk dn_371_0_3_ok 21 rfl))))
  (e_Tok2
  (e_Lok (e_st (I := eI) (er_iflt (off := 26) (tg := 199) (x_dk dn_371_0_3_ok 22 rfl) (by decide)) nx_if1))
  (e_Tok2
  (e_Lok (ld_aload_n_0 (x_dk dn_371_0_3_ok 23 rfl)))
  (e_Lok (ld_iload_n_2 (x_dk dn_371_0_3_ok 24 rfl)))))))))
def te_371_100 : Nat → eE := (e_T 209 (e_T 190 (e_T 183 (e_T 179 (e_T 178 (e_L 178 (0, ei_load 3 0 179, 0, 0)) (e_L 179 (2, e_nof, 370, 3))) (e_T 182 (e_L 182 (0, ei_load 0 2 183, 0, 0)) (e_L 183 (0, ei_load 0 2 184, 0, 0)))) (e_T 187 (e_T 184 (e_L 184 (0, ei_getf eft elay 12 70 187, 0, 0)) (e_L 187 (0, ei_load 6 0 189, 0, 0))) (e_T 189 (e_L 189 (0, ei_ald elay false 190, 0, 0)) (e_L 190 (2, e_nof, 365, 2))))) (e_T 199 (e_T 194 (e_T 193 (e_L 193 (0, ei_push (0, 0) 194, 0, 0)) (e_L 194 (0, ei_stor 5 0 196, 0, 0))) (e_T 196 (e_L 196 (0, ei_goto 234, 0, 0)) (e_L 199 (0, ei_load 0 2 200, 0, 0)))) (e_T 203 (e_T 200 (e_L 200 (0, ei_getf eft elay 12 0 203, 0, 0)) (e_L 203 (0, ei_load 0 2 204, 0, 0))) (e_T 204 (e_L 204 (0, ei_getf eft elay 12 97 207, 0, 0)) (e_T 207 (e_L 207 (0, ei_push (0, 13) 209, 0, 0)) (e_L 209 (0, ei_bin eF_add 210, 0, 0))))))) (e_T 222 (e_T 214 (e_T 211 (e_T 210 (e_L 210 (0, ei_stk ef_dup2 211, 0, 0)) (e_L 211 (0, ei_ald elay false 212, 0, 0))) (e_T 212 (e_L 212 (0, ei_load 7 0 214, 0, 0)) (e_L 214 (0, ei_push (0, 2) 215, 0, 0)))) (e_T 218 (e_T 215 (e_L 215 (0, ei_if2 1 222 218, 0, 0)) (e_L 218 (0, ei_push (0, 1) 219, 0, 0))) (e_T 219 (e_L 219 (0, ei_goto 223, 0, 0)) (e_L 222 (0, ei_push (0, 0) 223, 0, 0))))) (e_T 226 (e_T 224 (e_T 223 (e_L 223 (0, ei_bin eF_sub 224, 0, 0)) (e_L 224 (0, ei_ast elay false 225, 0, 0))) (e_T 225 (e_L 225 (0, ei_load 0 2 226, 0, 0)) (e_L 226 (0, ei_getf eft elay 12 68 229, 0, 0)))) (e_T 231 (e_T 229 (e_L 229 (0, ei_load 6 0 231, 0, 0)) (e_L 231 (0, ei_ald elay false 232, 0, 0))) (e_T 232 (e_L 232 (0, ei_stor 4 0 234, 0, 0)) (e_T 234 (e_L 234 (0, ei_goto 11, 0, 0)) (e_L 237 (1, e_nof, 0, 0))))))))
set_option maxRecDepth 20000 in
set_option maxHeartbeats 4000000 in
theorem te_371_100_ok : ∀ pc, e_EOq eft cls elay eI n_371 pc (te_371_100 pc) :=
  (e_Tok2
  (e_Tok2
  (e_Tok2
  (e_Tok2
  (e_Tok2
  (e_Lok (ld_iload_n_3 (x_dk dn_371_1_0_ok 0 rfl)))
  (e_Lok (lk_12_690 ho_371 (x_dk dn_371_1_0_ok 1 rfl))))
  (e_Tok2
  (e_Lok (ld_aload_n_0 (x_dk dn_371_1_0_ok 2 rfl)))
  (e_Lok (ld_aload_n_0 (x_dk dn_371_1_0_ok 3 rfl)))))
  (e_Tok2
  (e_Tok2
  (e_Lok (lk_12_186g ho_371 (x_dk dn_371_1_0_ok 4 rfl)))
  (e_Lok (ld_iload_6 (x_dk dn_371_1_0_ok 5 rfl))))
  (e_Tok2
  (e_Lok (sm_iaload (x_dk dn_371_1_0_ok 6 rfl)))
  (e_Lok (lk_12_678 ho_371 (x_dk dn_371_1_0_ok 7 rfl))))))
  (e_Tok2
  (e_Tok2
  (e_Tok2
  (e_Lok (ps_iconst_0 (x_dk dn_371_1_0_ok 8 rfl)))
  (e_Lok (e_st (I := eI) (er_istore (i := 5) (x_dk dn_371_1_0_ok 9 rfl) (by decide +kernel)) nx_stor)))
  (e_Tok2
  (e_Lok (e_st (I := eI) (er_goto (off := 38) (tg := 234) (x_dk dn_371_1_0_ok 10 rfl) (by decide)) nx_goto))
  (e_Lok (ld_aload_n_0 (x_dk dn_371_1_0_ok 11 rfl)))))
  (e_Tok2
  (e_Tok2
  (e_Lok (lk_12_8g ho_371 (x_dk dn_371_1_0_ok 12 rfl)))
  (e_Lok (ld_aload_n_0 (x_dk dn_371_1_0_ok 13 rfl))))
  (e_Tok2
  (e_Lok (lk_12_651g ho_371 (x_dk dn_371_1_0_ok 14 rfl)))
  (e_Tok2
  (e_Lok (ps_bipush_13 (x_dk dn_371_1_0_ok 15 rfl)))
  (e_Lok (sm_iadd (x_dk dn_371_1_0_ok 16 rfl))))))))
  (e_Tok2
  (e_Tok2
  (e_Tok2
  (e_Tok2
  (e_Lok (e_st (I := eI) (er_dup2 (x_dk dn_371_1_0_ok 17 rfl)) (nx_stk bf_dup2)))
  (e_Lok (sm_iaload (x_dk dn_371_1_0_ok 18 rfl))))
  (e_Tok2
  (e_Lok (ld_iload_7 (x_dk dn_371_1_0_ok 19 rfl)))
  (e_Lok (ps_iconst_2 (x_dk dn_371_1_0_ok 20 rfl)))))
  (e_Tok2
  (e_Tok2
  (e_Lok (e_st (I := eI) (er_icmpne (off := 7) (tg := 222) (x_dk dn_371_1_0_ok 21 rfl) (by decide)) nx_if2))
  (e_Lok (ps_iconst_1 (x_dk dn_371_1_0_ok 22 rfl))))
  (e_Tok2
  (e_Lok (e_st (I := eI) (er_goto (off := 4) (tg := 223) (x_dk dn_371_1_0_ok 23 rfl) (by decide)) nx_goto))
  (e_Lok (ps_iconst_0 (x_dk dn_371_1_0_ok 24 rfl))))))
  (e_Tok2
  (e_Tok2
  (e_Tok2
  (e_Lok (sm_isub (x_dk dn_371_1_1_ok 0 rfl)))
  (e_Lok (sm_iastore (x_dk dn_371_1_1_ok 1 rfl))))
  (e_Tok2
  (e_Lok (ld_aload_n_0 (x_dk dn_371_1_1_ok 2 rfl)))
  (e_Lok (lk_12_180g ho_371 (x_dk dn_371_1_1_ok 3 rfl)))))
  (e_Tok2
  (e_Tok2
  (e_Lok (ld_iload_6 (x_dk dn_371_1_1_ok 4 rfl)))
  (e_Lok (sm_iaload (x_dk dn_371_1_1_ok 5 rfl))))
  (e_Tok2
  (e_Lok (e_st (I := eI) (er_istore (i := 4) (x_dk dn_371_1_1_ok 6 rfl) (by decide +kernel)) nx_stor))
  (e_Tok2
  (e_Lok (e_st (I := eI) (er_goto (off := (-223)) (tg := 11) (x_dk dn_371_1_1_ok 7 rfl) (by decide)) nx_goto))
  (e_Lok (e_rt (I := eI) (k := 0) ⟨(x_dk dn_371_1_1_ok 8 rfl), rfl⟩))))))))
def te_371 : Nat → eE := (e_T 117 (e_T 56 te_371_0 te_371_33) (e_T 177 te_371_67 te_371_100))
theorem te_371_ok : ∀ pc, e_EOq eft cls elay eI n_371 pc (te_371 pc) := (e_Tok2 ((e_Tok2 (te_371_0_ok) (te_371_33_ok))) ((e_Tok2 (te_371_67_ok) (te_371_100_ok))))
theorem ho_372 : (xm_y n_372).cls = "RobotCellHouseModel" := rfl
def dn_372_0_0 : List (Nat × Instr × Nat) := [(0, .aload_n 0, 1), (1, .getfield 8, 3), (4, .aload_n 0, 1), (5, .invokevirtual 657, 3), (8, .iconst 1, 1), (9, .iadd, 1), (10, .iaload, 1), (11, .iconst 1, 1), (12, .if_icmp .ne 7, 3), (15, .iconst 1, 1), (16, .goto 4, 3), (19, .iconst 0, 1), (20, .istore_n 3, 1), (21, .aload_n 0, 1), (22, .getfield 8, 3), (25, .aload_n 0, 1), (26, .getfield 651, 3), (29, .bipush 12, 2), (31, .iadd, 1), (32, .dup2, 1), (33, .iaload, 1), (34, .iconst 1, 1), (35, .isub, 1), (36, .iastore, 1), (37, .aload_n 0, 1)]
set_option maxRecDepth 20000 in
theorem dn_372_0_0_ok : dn_372_0_0.all (fun q => decide (decode (xm_b n_372) q.1 = .ok (q.2.1, q.2.2))) = true := xa_g_ok (by decide +kernel)
def dn_372_0_1 : List (Nat × Instr × Nat) := [(38, .getfield 8, 3), (41, .aload_n 0, 1), (42, .getfield 651, 3), (45, .bipush 14, 2), (47, .iadd, 1), (48, .dup2, 1), (49, .iaload, 1), (50, .iload_n 3, 1), (51, .ifCond .eq 7, 3), (54, .iconst 1, 1), (55, .goto 4, 3), (58, .iconst 0, 1), (59, .isub, 1), (60, .iastore, 1), (61, .aload_n 0, 1), (62, .getfield 8, 3), (65, .aload_n 0, 1), (66, .getfield 651, 3), (69, .bipush 12, 2), (71, .iadd, 1), (72, .iaload, 1), (73, .ifCond .le 58, 3), (76, .iload_n 1, 1), (77, .iconst 1, 1), (78, .if_icmp .ne 27, 3)]
set_option maxRecDepth 20000 in
theorem dn_372_0_1_ok : dn_372_0_1.all (fun q => decide (decode (xm_b n_372) q.1 = .ok (q.2.1, q.2.2))) = true := xa_g_ok (by decide +kernel)
def dn_372_0_2 : List (Nat × Instr × Nat) := [(81, .aload_n 0, 1), (82, .getfield 177, 3), (85, .sipush 10000, 3), (88, .aload_n 0, 1), (89, .getfield 663, 3), (92, .imul, 1), (93, .aload_n 0, 1), (94, .getfield 8, 3), (97, .aload_n 0, 1), (98, .invokevirtual 657, 3), (101, .iaload, 1), (102, .iadd, 1), (103, .iaload, 1), (104, .ireturn, 1), (105, .aload_n 0, 1), (106, .aload_n 0, 1), (107, .getfield 8, 3), (110, .aload_n 0, 1), (111, .invokevirtual 657, 3), (114, .iaload, 1), (115, .iload_n 3, 1), (116, .ifCond .eq 7, 3), (119, .iconst 0, 1), (120, .goto 4, 3), (123, .iconst 1, 1)]
set_option maxRecDepth 20000 in
theorem dn_372_0_2_ok : dn_372_0_2.all (fun q => decide (decode (xm_b n_372) q.1 = .ok (q.2.1, q.2.2))) = true := xa_g_ok (by decide +kernel)
def dn_372_0_3 : List (Nat × Instr × Nat) := [(124, .iadd, 1), (125, .invokevirtual 678, 3), (128, .bipush (-2), 2), (130, .ireturn, 1), (131, .aload_n 0, 1), (132, .iconst 1, 1), (133, .putfield 669, 3), (136, .iload_n 1, 1), (137, .iconst 1, 1), (138, .if_icmp .ne 73, 3), (141, .aload_n 0, 1), (142, .getfield 8, 3), (145, .aload_n 0, 1), (146, .getfield 651, 3), (149, .bipush 7, 2), (151, .iastore, 1), (152, .aload_n 0, 1), (153, .getfield 8, 3), (156, .aload_n 0, 1), (157, .getfield 651, 3), (160, .iconst 2, 1), (161, .iadd, 1), (162, .iload_n 2, 1), (163, .iastore, 1), (164, .aload_n 0, 1)]
set_option maxRecDepth 20000 in
theorem dn_372_0_3_ok : dn_372_0_3.all (fun q => decide (decode (xm_b n_372) q.1 = .ok (q.2.1, q.2.2))) = true := xa_g_ok (by decide +kernel)
def dn_372_1_0 : List (Nat × Instr × Nat) := [(165, .getfield 8, 3), (168, .aload_n 0, 1), (169, .getfield 663, 3), (172, .invokestatic 294, 3), (175, .iconst 2, 1), (176, .iadd, 1), (177, .aload_n 0, 1), (178, .getfield 660, 3), (181, .iastore, 1), (182, .aload_n 0, 1), (183, .iconst 5, 1), (184, .aload_n 0, 1), (185, .getfield 660, 3), (188, .iload_n 2, 1), (189, .invokevirtual 693, 3), (192, .aload_n 0, 1), (193, .aload_n 0, 1), (194, .getfield 660, 3), (197, .invokevirtual 696, 3), (200, .aload_n 0, 1), (201, .aload_n 0, 1), (202, .getfield 663, 3), (205, .invokevirtual 699, 3), (208, .goto 32, 3), (211, .aload_n 0, 1)]
set_option maxRecDepth 20000 in
theorem dn_372_1_0_ok : dn_372_1_0.all (fun q => decide (decode (xm_b n_372) q.1 = .ok (q.2.1, q.2.2))) = true := xa_g_ok (by decide +kernel)
def dn_372_1_1 : List (Nat × Instr × Nat) := [(212, .getfield 8, 3), (215, .aload_n 0, 1), (216, .getfield 651, 3), (219, .bipush 6, 2), (221, .iastore, 1), (222, .aload_n 0, 1), (223, .iconst 4, 1), (224, .aload_n 0, 1), (225, .getfield 660, 3), (228, .iconst 0, 1), (229, .invokevirtual 693, 3), (232, .aload_n 0, 1), (233, .aload_n 0, 1), (234, .getfield 660, 3), (237, .invokevirtual 696, 3), (240, .bipush (-2), 2), (242, .ireturn, 1)]
set_option maxRecDepth 20000 in
theorem dn_372_1_1_ok : dn_372_1_1.all (fun q => decide (decode (xm_b n_372) q.1 = .ok (q.2.1, q.2.2))) = true := xa_g_ok (by decide +kernel)
def te_372_0 : Nat → eE := (e_T 26 (e_T 11 (e_T 5 (e_T 1 (e_T 0 (e_L 0 (0, ei_load 0 2 1, 0, 0)) (e_L 1 (0, ei_getf eft elay 12 0 4, 0, 0))) (e_T 4 (e_L 4 (0, ei_load 0 2 5, 0, 0)) (e_L 5 (2, e_nof, 362, 1)))) (e_T 9 (e_T 8 (e_L 8 (0, ei_push (0, 1) 9, 0, 0)) (e_L 9 (0, ei_bin eF_add 10, 0, 0))) (e_T 10 (e_L 10 (0, ei_ald elay false 11, 0, 0)) (e_L 11 (0, ei_push (0, 1) 12, 0, 0))))) (e_T 19 (e_T 15 (e_T 12 (e_L 12 (0, ei_if2 1 19 15, 0, 0)) (e_L 15 (0, ei_push (0, 1) 16, 0, 0))) (e_T 16 (e_L 16 (0, ei_goto 20, 0, 0)) (e_L 19 (0, ei_push (0, 0) 20, 0, 0)))) (e_T 21 (e_T 20 (e_L 20 (0, ei_stor 3 0 21, 0, 0)) (e_L 21 (0, ei_load 0 2 22, 0, 0))) (e_T 22 (e_L 22 (0, ei_getf eft elay 12 0 25, 0, 0)) (e_T 25 (e_L 25 (0, ei_load 0 2 26, 0, 0)) (e_L 26 (0, ei_getf eft elay 12 97 29, 0, 0))))))) (e_T 38 (e_T 33 (e_T 31 (e_T 29 (e_L 29 (0, ei_push (0, 12) 31, 0, 0)) (e_L 31 (0, ei_bin eF_add 32, 0, 0))) (e_T 32 (e_L 32 (0, ei_stk ef_dup2 33, 0, 0)) (e_L 33 (0, ei_ald elay false 34, 0, 0)))) (e_T 35 (e_T 34 (e_L 34 (0, ei_push (0, 1) 35, 0, 0)) (e_L 35 (0, ei_bin eF_sub 36, 0, 0))) (e_T 36 (e_L 36 (0, ei_ast elay false 37, 0, 0)) (e_T 37 (e_L 37 (0, ei_load 0 2 38, 0, 0)) (e_L 38 (0, ei_getf eft elay 12 0 41, 0, 0)))))) (e_T 47 (e_T 42 (e_T 41 (e_L 41 (0, ei_load 0 2 42, 0, 0)) (e_L 42 (0, ei_getf eft elay 12 97 45, 0, 0))) (e_T 45 (e_L 45 (0, ei_push (0, 14) 47, 0, 0)) (e_L 47 (0, ei_bin eF_add 48, 0, 0)))) (e_T 49 (e_T 48 (e_L 48 (0, ei_stk ef_dup2 49, 0, 0)) (e_L 49 (0, ei_ald elay false 50, 0, 0))) (e_T 50 (e_L 50 (0, ei_load 3 0 51, 0, 0)) (e_T 51 (e_L 51 (0, ei_if1 0 58 54, 0, 0)) (e_L 54 (0, ei_push (0, 1) 55, 0, 0))))))))
set_option maxRecDepth 20000 in
set_option maxHeartbeats 4000000 in
theorem te_372_0_ok : ∀ pc, e_EOq eft cls elay eI n_372 pc (te_372_0 pc) :=
  (e_Tok2
  (e_Tok2
  (e_Tok2
  (e_Tok2
  (e_Tok2
  (e_Lok (ld_aload_n_0 (x_dk dn_372_0_0_ok 0 rfl)))
  (e_Lok (lk_12_8g ho_372 (x_dk dn_372_0_0_ok 1 rfl))))
  (e_Tok2
  (e_Lok (ld_aload_n_0 (x_dk dn_372_0_0_ok 2 rfl)))
  (e_Lok (lk_12_657 ho_372 (x_dk dn_372_0_0_ok 3 rfl)))))
  (e_Tok2
  (e_Tok2
  (e_Lok (ps_iconst_1 (x_dk dn_372_0_0_ok 4 rfl)))
  (e_Lok (sm_iadd (x_dk dn_372_0_0_ok 5 rfl))))
  (e_Tok2
  (e_Lok (sm_iaload (x_dk dn_372_0_0_ok 6 rfl)))
  (e_Lok (ps_iconst_1 (x_dk dn_372_0_0_ok 7 rfl))))))
  (e_Tok2
  (e_Tok2
  (e_Tok2
  (e_Lok (e_st (I := eI) (er_icmpne (off := 7) (tg := 19) (x_dk dn_372_0_0_ok 8 rfl) (by decide)) nx_if2))
  (e_Lok (ps_iconst_1 (x_dk dn_372_0_0_ok 9 rfl))))
  (e_Tok2
  (e_Lok (e_st (I := eI) (er_goto (off := 4) (tg := 20) (x_dk dn_372_0_0_ok 10 rfl) (by decide)) nx_goto))
  (e_Lok (ps_iconst_0 (x_dk dn_372_0_0_ok 11 rfl)))))
  (e_Tok2
  (e_Tok2
  (e_Lok (e_st (I := eI) (er_istore_n (i := 3) (x_dk dn_372_0_0_ok 12 rfl) (by decide +kernel)) nx_stor))
  (e_Lok (ld_aload_n_0 (x_dk dn_372_0_0_ok 13 rfl))))
  (e_Tok2
  (e_Lok (lk_12_8g ho_372 (x_dk dn_372_0_0_ok 14 rfl)))
  (e_Tok2
  (e_Lok (ld_aload_n_0 (x_dk dn_372_0_0_ok 15 rfl)))
  (e_Lok (lk_12_651g ho_372 (x_dk dn_372_0_0_ok 16 rfl))))))))
  (e_Tok2
  (e_Tok2
  (e_Tok2
  (e_Tok2
  (e_Lok (ps_bipush_12 (x_dk dn_372_0_0_ok 17 rfl)))
  (e_Lok (sm_iadd (x_dk dn_372_0_0_ok 18 rfl))))
  (e_Tok2
  (e_Lok (e_st (I := eI) (er_dup2 (x_dk dn_372_0_0_ok 19 rfl)) (nx_stk bf_dup2)))
  (e_Lok (sm_iaload (x_dk dn_372_0_0_ok 20 rfl)))))
  (e_Tok2
  (e_Tok2
  (e_Lok (ps_iconst_1 (x_dk dn_372_0_0_ok 21 rfl)))
  (e_Lok (sm_isub (x_dk dn_372_0_0_ok 22 rfl))))
  (e_Tok2
  (e_Lok (sm_iastore (x_dk dn_372_0_0_ok 23 rfl)))
  (e_Tok2
  (e_Lok (ld_aload_n_0 (x_dk dn_372_0_0_ok 24 rfl)))
  (e_Lok (lk_12_8g ho_372 (x_dk dn_372_0_1_ok 0 rfl)))))))
  (e_Tok2
  (e_Tok2
  (e_Tok2
  (e_Lok (ld_aload_n_0 (x_dk dn_372_0_1_ok 1 rfl)))
  (e_Lok (lk_12_651g ho_372 (x_dk dn_372_0_1_ok 2 rfl))))
  (e_Tok2
  (e_Lok (ps_bipush_14 (x_dk dn_372_0_1_ok 3 rfl)))
  (e_Lok (sm_iadd (x_dk dn_372_0_1_ok 4 rfl)))))
  (e_Tok2
  (e_Tok2
  (e_Lok (e_st (I := eI) (er_dup2 (x_dk dn_372_0_1_ok 5 rfl)) (nx_stk bf_dup2)))
  (e_Lok (sm_iaload (x_dk dn_372_0_1_ok 6 rfl))))
  (e_Tok2
  (e_Lok (ld_iload_n_3 (x_dk dn_372_0_1_ok 7 rfl)))
  (e_Tok2
  (e_Lok (e_st (I := eI) (er_ifeq (off := 7) (tg := 58) (x_dk dn_372_0_1_ok 8 rfl) (by decide)) nx_if1))
  (e_Lok (ps_iconst_1 (x_dk dn_372_0_1_ok 9 rfl)))))))))
def te_372_35 : Nat → eE := (e_T 85 (e_T 69 (e_T 60 (e_T 58 (e_T 55 (e_L 55 (0, ei_goto 59, 0, 0)) (e_L 58 (0, ei_push (0, 0) 59, 0, 0))) (e_T 59 (e_L 59 (0, ei_bin eF_sub 60, 0, 0)) (e_L 60 (0, ei_ast elay false 61, 0, 0)))) (e_T 62 (e_T 61 (e_L 61 (0, ei_load 0 2 62, 0, 0)) (e_L 62 (0, ei_getf eft elay 12 0 65, 0, 0))) (e_T 65 (e_L 65 (0, ei_load 0 2 66, 0, 0)) (e_T 66 (e_L 66 (0, ei_getf eft elay 12 97 69, 0, 0)) (e_L 69 (0, ei_push (0, 12) 71, 0, 0)))))) (e_T 76 (e_T 72 (e_T 71 (e_L 71 (0, ei_bin eF_add 72, 0, 0)) (e_L 72 (0, ei_ald elay false 73, 0, 0))) (e_T 73 (e_L 73 (0, ei_if1 5 131 76, 0, 0)) (e_L 76 (0, ei_load 1 0 77, 0, 0)))) (e_T 78 (e_T 77 (e_L 77 (0, ei_push (0, 1) 78, 0, 0)) (e_L 78 (0, ei_if2 1 105 81, 0, 0))) (e_T 81 (e_L 81 (0, ei_load 0 2 82, 0, 0)) (e_T 82 (e_L 82 (0, ei_getf eft elay 12 67 85, 0, 0)) (e_L 85 (0, ei_push (0, 10000) 88, 0, 0))))))) (e_T 102 (e_T 93 (e_T 89 (e_T 88 (e_L 88 (0, ei_load 0 2 89, 0, 0)) (e_L 89 (0, ei_getf eft elay 12 98 92, 0, 0))) (e_T 92 (e_L 92 (0, ei_bin eF_mul 93, 0, 0)) (e_L 93 (0, ei_load 0 2 94, 0, 0)))) (e_T 97 (e_T 94 (e_L 94 (0, ei_getf eft elay 12 0 97, 0, 0)) (e_L 97 (0, ei_load 0 2 98, 0, 0))) (e_T 98 (e_L 98 (2, e_nof, 362, 1)) (e_T 101 (e_L 101 (0, ei_ald elay false 102, 0, 0)) (e_L 102 (0, ei_bin eF_add 103, 0, 0)))))) (e_T 106 (e_T 104 (e_T 103 (e_L 103 (0, ei_ald elay false 104, 0, 0)) (e_L 104 (1, e_nof, 1, 0))) (e_T 105 (e_L 105 (0, ei_load 0 2 106, 0, 0)) (e_L 106 (0, ei_load 0 2 107, 0, 0)))) (e_T 110 (e_T 107 (e_L 107 (0, ei_getf eft elay 12 0 110, 0, 0)) (e_L 110 (0, ei_load 0 2 111, 0, 0))) (e_T 111 (e_L 111 (2, e_nof, 362, 1)) (e_T 114 (e_L 114 (0, ei_ald elay false 115, 0, 0)) (e_L 115 (0, ei_load 3 0 116, 0, 0))))))))
set_option maxRecDepth 20000 in
set_option maxHeartbeats 4000000 in
theorem te_372_35_ok : ∀ pc, e_EOq eft cls elay eI n_372 pc (te_372_35 pc) :=
  (e_Tok2
  (e_Tok2
  (e_Tok2
  (e_Tok2
  (e_Tok2
  (e_Lok (e_st (I := eI) (er_goto (off := 4) (tg := 59) (x_dk dn_372_0_1_ok 10 rfl) (by decide)) nx_goto))
  (e_Lok (ps_iconst_0 (x_dk dn_372_0_1_ok 11 rfl))))
  (e_Tok2
  (e_Lok (sm_isub (x_dk dn_372_0_1_ok 12 rfl)))
  (e_Lok (sm_iastore (x_dk dn_372_0_1_ok 13 rfl)))))
  (e_Tok2
  (e_Tok2
  (e_Lok (ld_aload_n_0 (x_dk dn_372_0_1_ok 14 rfl)))
  (e_Lok (lk_12_8g ho_372 (x_dk dn_372_0_1_ok 15 rfl))))
  (e_Tok2
  (e_Lok (ld_aload_n_0 (x_dk dn_372_0_1_ok 16 rfl)))
  (e_Tok2
  (e_Lok (lk_12_651g ho_372 (x_dk dn_372_0_1_ok 17 rfl)))
  (e_Lok (ps_bipush_12 (x_dk dn_372_0_1_ok 18 rfl)))))))
  (e_Tok2
  (e_Tok2
  (e_Tok2
  (e_Lok (sm_iadd (x_dk dn_372_0_1_ok 19 rfl)))
  (e_Lok (sm_iaload (x_dk dn_372_0_1_ok 20 rfl))))
  (e_Tok2
  (e_Lok (e_st (I := eI) (er_ifle (off := 58) (tg := 131) (x_dk dn_372_0_1_ok 21 rfl) (by decide)) nx_if1))
  (e_Lok (ld_iload_n_1 (x_dk dn_372_0_1_ok 22 rfl)))))
  (e_Tok2
  (e_Tok2
  (e_Lok (ps_iconst_1 (x_dk dn_372_0_1_ok 23 rfl)))
  (e_Lok (e_st (I := eI) (er_icmpne (off := 27) (tg := 105) (x_dk dn_372_0_1_ok 24 rfl) (by decide)) nx_if2)))
  (e_Tok2
  (e_Lok (ld_aload_n_0 (x_dk dn_372_0_2_ok 0 rfl)))
  (e_Tok2
  (e_Lok (lk_12_177g ho_372 (x_dk dn_372_0_2_ok 1 rfl)))
  (e_Lok (ps_sipush_10000 (x_dk dn_372_0_2_ok 2 rfl))))))))
  (e_Tok2
  (e_Tok2
  (e_Tok2
  (e_Tok2
  (e_Lok (ld_aload_n_0 (x_dk dn_372_0_2_ok 3 rfl)))
  (e_Lok (lk_12_663g ho_372 (x_dk dn_372_0_2_ok 4 rfl))))
  (e_Tok2
  (e_Lok (sm_imul (x_dk dn_372_0_2_ok 5 rfl)))
  (e_Lok (ld_aload_n_0 (x_dk dn_372_0_2_ok 6 rfl)))))
  (e_Tok2
  (e_Tok2
  (e_Lok (lk_12_8g ho_372 (x_dk dn_372_0_2_ok 7 rfl)))
  (e_Lok (ld_aload_n_0 (x_dk dn_372_0_2_ok 8 rfl))))
  (e_Tok2
  (e_Lok (lk_12_657 ho_372 (x_dk dn_372_0_2_ok 9 rfl)))
  (e_Tok2
  (e_Lok (sm_iaload (x_dk dn_372_0_2_ok 10 rfl)))
  (e_Lok (sm_iadd (x_dk dn_372_0_2_ok 11 rfl)))))))
  (e_Tok2
  (e_Tok2
  (e_Tok2
  (e_Lok (sm_iaload (x_dk dn_372_0_2_ok 12 rfl)))
  (e_Lok (e_rt (I := eI) (k := 1) ⟨(x_dk dn_372_0_2_ok 13 rfl), rfl⟩)))
  (e_Tok2
  (e_Lok (ld_aload_n_0 (x_dk dn_372_0_2_ok 14 rfl)))
  (e_Lok (ld_aload_n_0 (x_dk dn_372_0_2_ok 15 rfl)))))
  (e_Tok2
  (e_Tok2
  (e_Lok (lk_12_8g ho_372 (x_dk dn_372_0_2_ok 16 rfl)))
  (e_Lok (ld_aload_n_0 (x_dk dn_372_0_2_ok 17 rfl))))
  (e_Tok2
  (e_Lok (lk_12_657 ho_372 (x_dk dn_372_0_2_ok 18 rfl)))
  (e_Tok2
  (e_Lok (sm_iaload (x_dk dn_372_0_2_ok 19 rfl)))
  (e_Lok (ld_iload_n_3 (x_dk dn_372_0_2_ok 20 rfl)))))))))
def te_372_71 : Nat → eE := (e_T 145 (e_T 130 (e_T 123 (e_T 119 (e_T 116 (e_L 116 (0, ei_if1 0 123 119, 0, 0)) (e_L 119 (0, ei_push (0, 0) 120, 0, 0))) (e_T 120 (e_L 120 (0, ei_goto 124, 0, 0)) (e_L 123 (0, ei_push (0, 1) 124, 0, 0)))) (e_T 125 (e_T 124 (e_L 124 (0, ei_bin eF_add 125, 0, 0)) (e_L 125 (2, e_nof, 365, 2))) (e_T 128 (e_L 128 (0, ei_push (0, (-2)) 130, 0, 0)) (e_L 130 (1, e_nof, 1, 0))))) (e_T 136 (e_T 132 (e_T 131 (e_L 131 (0, ei_load 0 2 132, 0, 0)) (e_L 132 (0, ei_push (0, 1) 133, 0, 0))) (e_T 133 (e_L 133 (0, ei_putf eft elay 12 100 1 136, 0, 0)) (e_L 136 (0, ei_load 1 0 137, 0, 0)))) (e_T 138 (e_T 137 (e_L 137 (0, ei_push (0, 1) 138, 0, 0)) (e_L 138 (0, ei_if2 1 211 141, 0, 0))) (e_T 141 (e_L 141 (0, ei_load 0 2 142, 0, 0)) (e_T 142 (e_L 142 (0, ei_getf eft elay 12 0 145, 0, 0)) (e_L 145 (0, ei_load 0 2 146, 0, 0))))))) (e_T 161 (e_T 152 (e_T 149 (e_T 146 (e_L 146 (0, ei_getf eft elay 12 97 149, 0, 0)) (e_L 149 (0, ei_push (0, 7) 151, 0, 0))) (e_T 151 (e_L 151 (0, ei_ast elay false 152, 0, 0)) (e_L 152 (0, ei_load 0 2 153, 0, 0)))) (e_T 156 (e_T 153 (e_L 153 (0, ei_getf eft elay 12 0 156, 0, 0)) (e_L 156 (0, ei_load 0 2 157, 0, 0))) (e_T 157 (e_L 157 (0, ei_getf eft elay 12 97 160, 0, 0)) (e_T 160 (e_L 160 (0, ei_push (0, 2) 161, 0, 0)) (e_L 161 (0, ei_bin eF_add 162, 0, 0)))))) (e_T 165 (e_T 163 (e_T 162 (e_L 162 (0, ei_load 2 0 163, 0, 0)) (e_L 163 (0, ei_ast elay false 164, 0, 0))) (e_T 164 (e_L 164 (0, ei_load 0 2 165, 0, 0)) (e_L 165 (0, ei_getf eft elay 12 0 168, 0, 0)))) (e_T 169 (e_T 168 (e_L 168 (0, ei_load 0 2 169, 0, 0)) (e_L 169 (0, ei_getf eft elay 12 98 172, 0, 0))) (e_T 172 (e_L 172 (2, e_nof, 268, 1)) (e_T 175 (e_L 175 (0, ei_push (0, 2) 176, 0, 0)) (e_L 176 (0, ei_bin eF_add 177, 0, 0))))))))
set_option maxRecDepth 20000 in
set_option maxHeartbeats 4000000 in
theorem te_372_71_ok : ∀ pc, e_EOq eft cls elay eI n_372 pc (te_372_71 pc) :=
  (e_Tok2
  (e_Tok2
  (e_Tok2
  (e_Tok2
  (e_Tok2
  (e_Lok (e_st (I := eI) (er_ifeq (off := 7) (tg := 123) (x_dk dn_372_0_2_ok 21 rfl) (by decide)) nx_if1))
  (e_Lok (ps_iconst_0 (x_dk dn_372_0_2_ok 22 rfl))))
  (e_Tok2
  (e_Lok (e_st (I := eI) (er_goto (off := 4) (tg := 124) (x_dk dn_372_0_2_ok 23 rfl) (by decide)) nx_goto))
  (e_Lok (ps_iconst_1 (x_dk dn_372_0_2_ok 24 rfl)))))
  (e_Tok2
  (e_Tok2
  (e_Lok (sm_iadd (x_dk dn_372_0_3_ok 0 rfl)))
  (e_Lok (lk_12_678 ho_372 (x_dk dn_372_0_3_ok 1 rfl))))
  (e_Tok2
  (e_Lok (ps_bipush_m2 (x_dk dn_372_0_3_ok 2 rfl)))
  (e_Lok (e_rt (I := eI) (k := 1) ⟨(x_dk dn_372_0_3_ok 3 rfl), rfl⟩)))))
  (e_Tok2
  (e_Tok2
  (e_Tok2
  (e_Lok (ld_aload_n_0 (x_dk dn_372_0_3_ok 4 rfl)))
  (e_Lok (ps_iconst_1 (x_dk dn_372_0_3_ok 5 rfl))))
  (e_Tok2
  (e_Lok (lk_12_669p ho_372 (x_dk dn_372_0_3_ok 6 rfl)))
  (e_Lok (ld_iload_n_1 (x_dk dn_372_0_3_ok 7 rfl)))))
  (e_Tok2
  (e_Tok2
  (e_Lok (ps_iconst_1 (x_dk dn_372_0_3_ok 8 rfl)))
  (e_Lok (e_st (I := eI) (er_icmpne (off := 73) (tg := 211) (x_dk dn_372_0_3_ok 9 rfl) (by decide)) nx_if2)))
  (e_Tok2
  (e_Lok (ld_aload_n_0 (x_dk dn_372_0_3_ok 10 rfl)))
  (e_Tok2
  (e_Lok (lk_12_8g ho_372 (x_dk dn_372_0_3_ok 11 rfl)))
  (e_Lok (ld_aload_n_0 (x_dk dn_372_0_3_ok 12 rfl))))))))
  (e_Tok2
  (e_Tok2
  (e_Tok2
  (e_Tok2
  (e_Lok (lk_12_651g ho_372 (x_dk dn_372_0_3_ok 13 rfl)))
  (e_Lok (ps_bipush_7 (x_dk dn_372_0_3_ok 14 rfl))))
  (e_Tok2
  (e_Lok (sm_iastore (x_dk dn_372_0_3_ok 15 rfl)))
  (e_Lok (ld_aload_n_0 (x_dk dn_372_0_3_ok 16 rfl)))))
  (e_Tok2
  (e_Tok2
  (e_Lok (lk_12_8g ho_372 (x_dk dn_372_0_3_ok 17 rfl)))
  (e_Lok (ld_aload_n_0 (x_dk dn_372_0_3_ok 18 rfl))))
  (e_Tok2
  (e_Lok (lk_12_651g ho_372 (x_dk dn_372_0_3_ok 19 rfl)))
  (e_Tok2
  (e_Lok (ps_iconst_2 (x_dk dn_372_0_3_ok 20 rfl)))
  (e_Lok (sm_iadd (x_dk dn_372_0_3_ok 21 rfl)))))))
  (e_Tok2
  (e_Tok2
  (e_Tok2
  (e_Lok (ld_iload_n_2 (x_dk dn_372_0_3_ok 22 rfl)))
  (e_Lok (sm_iastore (x_dk dn_372_0_3_ok 23 rfl))))
  (e_Tok2
  (e_Lok (ld_aload_n_0 (x_dk dn_372_0_3_ok 24 rfl)))
  (e_Lok (lk_12_8g ho_372 (x_dk dn_372_1_0_ok 0 rfl)))))
  (e_Tok2
  (e_Tok2
  (e_Lok (ld_aload_n_0 (x_dk dn_372_1_0_ok 1 rfl)))
  (e_Lok (lk_12_663g ho_372 (x_dk dn_372_1_0_ok 2 rfl))))
  (e_Tok2
  (e_Lok (lk_12_294 ho_372 (x_dk dn_372_1_0_ok 3 rfl)))
  (e_Tok2
  (e_Lok (ps_iconst_2 (x_dk dn_372_1_0_ok 4 rfl)))
  (e_Lok (sm_iadd (x_dk dn_372_1_0_ok 5 rfl)))))))))
def te_372_106 : Nat → eE := (e_T 208 (e_T 189 (e_T 182 (e_T 178 (e_T 177 (e_L 177 (0, ei_load 0 2 178, 0, 0)) (e_L 178 (0, ei_getf eft elay 12 96 181, 0, 0))) (e_T 181 (e_L 181 (0, ei_ast elay false 182, 0, 0)) (e_L 182 (0, ei_load 0 2 183, 0, 0)))) (e_T 184 (e_T 183 (e_L 183 (0, ei_push (0, 5) 184, 0, 0)) (e_L 184 (0, ei_load 0 2 185, 0, 0))) (e_T 185 (e_L 185 (0, ei_getf eft elay 12 96 188, 0, 0)) (e_T 188 (e_L 188 (0, ei_load 2 0 189, 0, 0)) (e_L 189 (2, e_nof, 319, 4)))))) (e_T 197 (e_T 193 (e_T 192 (e_L 192 (0, ei_load 0 2 193, 0, 0)) (e_L 193 (0, ei_load 0 2 194, 0, 0))) (e_T 194 (e_L 194 (0, ei_getf eft elay 12 96 197, 0, 0)) (e_L 197 (2, e_nof, 361, 2)))) (e_T 201 (e_T 200 (e_L 200 (0, ei_load 0 2 201, 0, 0)) (e_L 201 (0, ei_load 0 2 202, 0, 0))) (e_T 202 (e_L 202 (0, ei_getf eft elay 12 98 205, 0, 0)) (e_T 205 (e_L 205 (2, e_nof, 384, 2)) (e_L 208 (0, ei_goto 240, 0, 0))))))) (e_T 224 (e_T 216 (e_T 212 (e_T 211 (e_L 211 (0, ei_load 0 2 212, 0, 0)) (e_L 212 (0, ei_getf eft elay 12 0 215, 0, 0))) (e_T 215 (e_L 215 (0, ei_load 0 2 216, 0, 0)) (e_L 216 (0, ei_getf eft elay 12 97 219, 0, 0)))) (e_T 221 (e_T 219 (e_L 219 (0, ei_push (0, 6) 221, 0, 0)) (e_L 221 (0, ei_ast elay false 222, 0, 0))) (e_T 222 (e_L 222 (0, ei_load 0 2 223, 0, 0)) (e_T 223 (e_L 223 (0, ei_push (0, 4) 224, 0, 0)) (e_L 224 (0, ei_load 0 2 225, 0, 0)))))) (e_T 232 (e_T 228 (e_T 225 (e_L 225 (0, ei_getf eft elay 12 96 228, 0, 0)) (e_L 228 (0, ei_push (0, 0) 229, 0, 0))) (e_T 229 (e_L 229 (2, e_nof, 319, 4)) (e_L 232 (0, ei_load 0 2 233, 0, 0)))) (e_T 234 (e_T 233 (e_L 233 (0, ei_load 0 2 234, 0, 0)) (e_L 234 (0, ei_getf eft elay 12 96 237, 0, 0))) (e_T 237 (e_L 237 (2, e_nof, 361, 2)) (e_T 240 (e_L 240 (0, ei_push (0, (-2)) 242, 0, 0)) (e_L 242 (1, e_nof, 1, 0))))))))
set_option maxRecDepth 20000 in
set_option maxHeartbeats 4000000 in
theorem te_372_106_ok : ∀ pc, e_EOq eft cls elay eI n_372 pc (te_372_106 pc) :=
  (e_Tok2
  (e_Tok2
  (e_Tok2
  (e_Tok2
  (e_Tok2
  (e_Lok (ld_aload_n_0 (x_dk dn_372_1_0_ok 6 rfl)))
  (e_Lok (lk_12_660g ho_372 (x_dk dn_372_1_0_ok 7 rfl))))
  (e_Tok2
  (e_Lok (sm_iastore (x_dk dn_372_1_0_ok 8 rfl)))
  (e_Lok (ld_aload_n_0 (x_dk dn_372_1_0_ok 9 rfl)))))
  (e_Tok2
  (e_Tok2
  (e_Lok (ps_iconst_5 (x_dk dn_372_1_0_ok 10 rfl)))
  (e_Lok (ld_aload_n_0 (x_dk dn_372_1_0_ok 11 rfl))))
  (e_Tok2
  (e_Lok (lk_12_660g ho_372 (x_dk dn_372_1_0_ok 12 rfl)))
  (e_Tok2
  (e_Lok (ld_iload_n_2 (x_dk dn_372_1_0_ok 13 rfl)))
  (e_Lok (lk_12_693 ho_372 (x_dk dn_372_1_0_ok 14 rfl)))))))
  (e_Tok2
  (e_Tok2
  (e_Tok2
  (e_Lok (ld_aload_n_0 (x_dk dn_372_1_0_ok 15 rfl)))
  (e_Lok (ld_aload_n_0 (x_dk dn_372_1_0_ok 16 rfl))))
  (e_Tok2
  (e_Lok (lk_12_660g ho_372 (x_dk dn_372_1_0_ok 17 rfl)))
  (e_Lok (lk_12_696 ho_372 (x_dk dn_372_1_0_ok 18 rfl)))))
  (e_Tok2
  (e_Tok2
  (e_Lok (ld_aload_n_0 (x_dk dn_372_1_0_ok 19 rfl)))
  (e_Lok (ld_aload_n_0 (x_dk dn_372_1_0_ok 20 rfl))))
  (e_Tok2
  (e_Lok (lk_12_663g ho_372 (x_dk dn_372_1_0_ok 21 rfl)))
  (e_Tok2
  (e_Lok (lk_12_699 ho_372 (x_dk dn_372_1_0_ok 22 rfl)))
  (e_Lok (e_st (I := eI) (er_goto (off := 32) (tg := 240) (x_dk dn_372_1_0_ok 23 rfl) (by decide)) nx_goto)))))))
  (e_Tok2
  (e_Tok2
  (e_Tok2
  (e_Tok2
  (e_Lok (ld_aload_n_0 (x_dk dn_372_1_0_ok 24 rfl)))
  (e_Lok (lk_12_8g ho_372 (x_dk dn_372_1_1_ok 0 rfl))))
  (e_Tok2
  (e_Lok (ld_aload_n_0 (x_dk dn_372_1_1_ok 1 rfl)))
  (e_Lok (lk_12_651g ho_372 (x_dk dn_372_1_1_ok 2 rfl)))))
  (e_Tok2
  (e_Tok2
  (e_Lok (ps_bipush_6 (x_dk dn_372_1_1_ok 3 rfl)))
  (e_Lok (sm_iastore (x_dk dn_372_1_1_ok 4 rfl))))
  (e_Tok2
  (e_Lok (ld_aload_n_0 (x_dk dn_372_1_1_ok 5 rfl)))
  (e_Tok2
  (e_Lok (ps_iconst_4 (x_dk dn_372_1_1_ok 6 rfl)))
  (e_Lok (ld_aload_n_0 (x_dk dn_372_1_1_ok 7 rfl)))))))
  (e_Tok2
  (e_Tok2
  (e_Tok2
  (e_Lok (lk_12_660g ho_372 (x_dk dn_372_1_1_ok 8 rfl)))
  (e_Lok (ps_iconst_0 (x_dk dn_372_1_1_ok 9 rfl))))
  (e_Tok2
  (e_Lok (lk_12_693 ho_372 (x_dk dn_372_1_1_ok 10 rfl)))
  (e_Lok (ld_aload_n_0 (x_dk dn_372_1_1_ok 11 rfl)))))
  (e_Tok2
  (e_Tok2
  (e_Lok (ld_aload_n_0 (x_dk dn_372_1_1_ok 12 rfl)))
  (e_Lok (lk_12_660g ho_372 (x_dk dn_372_1_1_ok 13 rfl))))
  (e_Tok2
  (e_Lok (lk_12_696 ho_372 (x_dk dn_372_1_1_ok 14 rfl)))
  (e_Tok2
  (e_Lok (ps_bipush_m2 (x_dk dn_372_1_1_ok 15 rfl)))
  (e_Lok (e_rt (I := eI) (k := 1) ⟨(x_dk dn_372_1_1_ok 16 rfl), rfl⟩))))))))
def te_372 : Nat → eE := (e_T 115 (e_T 54 te_372_0 te_372_35) (e_T 176 te_372_71 te_372_106))
theorem te_372_ok : ∀ pc, e_EOq eft cls elay eI n_372 pc (te_372 pc) := (e_Tok2 ((e_Tok2 (te_372_0_ok) (te_372_35_ok))) ((e_Tok2 (te_372_71_ok) (te_372_106_ok))))
end
