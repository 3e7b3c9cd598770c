noncomputable section
theorem ho_257 : (xm_y n_257).cls = "RobotCellHouse" := rfl
def dn_257_0_0 : List (Nat × Instr × Nat) := [(0, .iload_n 1, 1), (1, .ifCond .ge 11, 3), (4, .aload_n 0, 1), (5, .iconst 4, 1), (6, .iconst 0, 1), (7, .invokevirtual 460, 3), (10, .iconst 0, 1), (11, .ireturn, 1), (12, .aload_n 0, 1), (13, .getfield 27, 3), (16, .iload_n 1, 1), (17, .aaload, 1), (18, .getfield 286, 3), (21, .istore_n 2, 1), (22, .aload_n 0, 1), (23, .getfield 19, 3), (26, .iload_n 1, 1), (27, .invokevirtual 463, 3), (30, .iload_n 2, 1), (31, .ireturn, 1)]
set_option maxRecDepth 20000 in
theorem dn_257_0_0_ok : dn_257_0_0.all (fun q => decide (decode (xm_b n_257) q.1 = .ok (q.2.1, q.2.2))) = true := xa_g_ok (by decide +kernel)
def te_257_0 : Nat → eE := (e_T 13 (e_T 6 (e_T 1 (e_T 0 (e_L 0 (0, ei_load 1 0 1, 0, 0)) (e_L 1 (0, ei_if1 3 12 4, 0, 0))) (e_T 4 (e_L 4 (0, ei_load 0 2 5, 0, 0)) (e_T 5 (e_L 5 (0, ei_push (0, 4) 6, 0, 0)) (e_L 6 (0, ei_push (0, 0) 7, 0, 0))))) (e_T 10 (e_T 7 (e_L 7 (2, e_nof, 265, 3)) (e_L 10 (0, ei_push (0, 0) 11, 0, 0))) (e_T 11 (e_L 11 (1, e_nof, 1, 0)) (e_T 12 (e_L 12 (0, ei_load 0 2 13, 0, 0)) (e_L 13 (0, ei_getf eft elay 11 2 16, 0, 0)))))) (e_T 22 (e_T 17 (e_T 16 (e_L 16 (0, ei_load 1 0 17, 0, 0)) (e_L 17 (0, ei_aald elay 18, 0, 0))) (e_T 18 (e_L 18 (0, ei_getf eft elay 0 11 21, 0, 0)) (e_T 21 (e_L 21 (0, ei_stor 2 0 22, 0, 0)) (e_L 22 (0, ei_load 0 2 23, 0, 0))))) (e_T 26 (e_T 23 (e_L 23 (0, ei_getf eft elay 11 1 26, 0, 0)) (e_L 26 (0, ei_load 1 0 27, 0, 0))) (e_T 27 (e_L 27 (2, e_nof, 40, 2)) (e_T 30 (e_L 30 (0, ei_load 2 0 31, 0, 0)) (e_L 31 (1, e_nof, 1, 0)))))))
set_option maxRecDepth 20000 in
set_option maxHeartbeats 4000000 in
theorem te_257_0_ok : ∀ pc, e_EOq eft cls elay eI n_257 pc (te_257_0 pc) :=
  (e_Tok2
  (e_Tok2
  (e_Tok2
  (e_Tok2
  (e_Lok (ld_iload_n_1 (x_dk dn_257_0_0_ok 0 rfl)))
  (e_Lok (e_st (I := eI) (er_ifge (off := 11) (tg := 12) (x_dk dn_257_0_0_ok 1 rfl) (by decide)) nx_if1)))
  (e_Tok2
  (e_Lok (ld_aload_n_0 (x_dk dn_257_0_0_ok 2 rfl)))
  (e_Tok2
  (e_Lok (ps_iconst_4 (x_dk dn_257_0_0_ok 3 rfl)))
  (e_Lok (ps_iconst_0 (x_dk dn_257_0_0_ok 4 rfl))))))
  (e_Tok2
  (e_Tok2
  (e_Lok (lk_11_460 ho_257 (x_dk dn_257_0_0_ok 5 rfl)))
  (e_Lok (ps_iconst_0 (x_dk dn_257_0_0_ok 6 rfl))))
  (e_Tok2
  (e_Lok (e_rt (I := eI) (k := 1) ⟨(x_dk dn_257_0_0_ok 7 rfl), rfl⟩))
  (e_Tok2
  (e_Lok (ld_aload_n_0 (x_dk dn_257_0_0_ok 8 rfl)))
  (e_Lok (lk_11_27g ho_257 (x_dk dn_257_0_0_ok 9 rfl)))))))
  (e_Tok2
  (e_Tok2
  (e_Tok2
  (e_Lok (ld_iload_n_1 (x_dk dn_257_0_0_ok 10 rfl)))
  (e_Lok (e_st (I := eI) (er_aaload (x_dk dn_257_0_0_ok 11 rfl)) nx_aald)))
  (e_Tok2
  (e_Lok (lk_11_286g ho_257 (x_dk dn_257_0_0_ok 12 rfl)))
  (e_Tok2
  (e_Lok (e_st (I := eI) (er_istore_n (i := 2) (x_dk dn_257_0_0_ok 13 rfl) (by decide +kernel)) nx_stor))
  (e_Lok (ld_aload_n_0 (x_dk dn_257_0_0_ok 14 rfl))))))
  (e_Tok2
  (e_Tok2
  (e_Lok (lk_11_19g ho_257 (x_dk dn_257_0_0_ok 15 rfl)))
  (e_Lok (ld_iload_n_1 (x_dk dn_257_0_0_ok 16 rfl))))
  (e_Tok2
  (e_Lok (lk_11_463 ho_257 (x_dk dn_257_0_0_ok 17 rfl)))
  (e_Tok2
  (e_Lok (ld_iload_n_2 (x_dk dn_257_0_0_ok 18 rfl)))
  (e_Lok (e_rt (I := eI) (k := 1) ⟨(x_dk dn_257_0_0_ok 19 rfl), rfl⟩)))))))
def te_257 : Nat → eE := te_257_0
theorem te_257_ok : ∀ pc, e_EOq eft cls elay eI n_257 pc (te_257 pc) := te_257_0_ok
theorem ho_258 : (xm_y n_258).cls = "RobotCellHouse" := rfl
def dn_258_0_0 : List (Nat × Instr × Nat) := [(0, .aload_n 0, 1), (1, .getfield 27, 3), (4, .iload_n 1, 1), (5, .aaload, 1), (6, .getfield 123, 3), (9, .iload_n 2, 1), (10, .aaload, 1), (11, .getfield 326, 3), (14, .istore 4, 2), (16, .iload_n 3, 1), (17, .iload 4, 2), (19, .if_icmp .eq 35, 3), (22, .aload_n 0, 1), (23, .getfield 27, 3), (26, .iload_n 1, 1), (27, .aaload, 1), (28, .getfield 123, 3), (31, .iload_n 2, 1), (32, .aaload, 1), (33, .iload_n 3, 1), (34, .putfield 326, 3), (37, .aload_n 0, 1), (38, .getfield 27, 3), (41, .iload_n 1, 1), (42, .aaload, 1)]
set_option maxRecDepth 20000 in
theorem dn_258_0_0_ok : dn_258_0_0.all (fun q => decide (decode (xm_b n_258) q.1 = .ok (q.2.1, q.2.2))) = true := xa_g_ok (by decide +kernel)
def dn_258_0_1 : List (Nat × Instr × Nat) := [(43, .invokevirtual 466, 3), (46, .aload_n 0, 1), (47, .getfield 19, 3), (50, .iload_n 1, 1), (51, .invokevirtual 468, 3), (54, .iload 4, 2), (56, .ireturn, 1)]
set_option maxRecDepth 20000 in
theorem dn_258_0_1_ok : dn_258_0_1.all (fun q => decide (decode (xm_b n_258) q.1 = .ok (q.2.1, q.2.2))) = true := xa_g_ok (by decide +kernel)
def te_258_0 : Nat → eE := (e_T 27 (e_T 11 (e_T 5 (e_T 1 (e_T 0 (e_L 0 (0, ei_load 0 2 1, 0, 0)) (e_L 1 (0, ei_getf eft elay 11 2 4, 0, 0))) (e_T 4 (e_L 4 (0, ei_load 1 0 5, 0, 0)) (e_L 5 (0, ei_aald elay 6, 0, 0)))) (e_T 9 (e_T 6 (e_L 6 (0, ei_getf eft elay 0 0 9, 0, 0)) (e_L 9 (0, ei_load 2 0 10, 0, 0))) (e_T 10 (e_L 10 (0, ei_aald elay 11, 0, 0)) (e_L 11 (0, ei_getf eft elay 5 7 14, 0, 0))))) (e_T 19 (e_T 16 (e_T 14 (e_L 14 (0, ei_stor 4 0 16, 0, 0)) (e_L 16 (0, ei_load 3 0 17, 0, 0))) (e_T 17 (e_L 17 (0, ei_load 4 0 19, 0, 0)) (e_L 19 (0, ei_if2 0 54 22, 0, 0)))) (e_T 23 (e_T 22 (e_L 22 (0, ei_load 0 2 23, 0, 0)) (e_L 23 (0, ei_getf eft elay 11 2 26, 0, 0))) (e_T 26 (e_L 26 (0, ei_load 1 0 27, 0, 0)) (e_L 27 (0, ei_aald elay 28, 0, 0)))))) (e_T 41 (e_T 33 (e_T 31 (e_T 28 (e_L 28 (0, ei_getf eft elay 0 0 31, 0, 0)) (e_L 31 (0, ei_load 2 0 32, 0, 0))) (e_T 32 (e_L 32 (0, ei_aald elay 33, 0, 0)) (e_L 33 (0, ei_load 3 0 34, 0, 0)))) (e_T 37 (e_T 34 (e_L 34 (0, ei_putf eft elay 5 7 0 37, 0, 0)) (e_L 37 (0, ei_load 0 2 38, 0, 0))) (e_T 38 (e_L 38 (0, ei_getf eft elay 11 2 41, 0, 0)) (e_L 41 (0, ei_load 1 0 42, 0, 0))))) (e_T 47 (e_T 43 (e_T 42 (e_L 42 (0, ei_aald elay 43, 0, 0)) (e_L 43 (2, e_nof, 10, 1))) (e_T 46 (e_L 46 (0, ei_load 0 2 47, 0, 0)) (e_L 47 (0, ei_getf eft elay 11 1 50, 0, 0)))) (e_T 51 (e_T 50 (e_L 50 (0, ei_load 1 0 51, 0, 0)) (e_L 51 (2, e_nof, 39, 2))) (e_T 54 (e_L 54 (0, ei_load 4 0 56, 0, 0)) (e_L 56 (1, e_nof, 1, 0)))))))
set_option maxRecDepth 20000 in
set_option maxHeartbeats 4000000 in
theorem te_258_0_ok : ∀ pc, e_EOq eft cls elay eI n_258 pc (te_258_0 pc) :=
  (e_Tok2
  (e_Tok2
  (e_Tok2
  (e_Tok2
  (e_Tok2
  (e_Lok (ld_aload_n_0 (x_dk dn_258_0_0_ok 0 rfl)))
  (e_Lok (lk_11_27g ho_258 (x_dk dn_258_0_0_ok 1 rfl))))
  (e_Tok2
  (e_Lok (ld_iload_n_1 (x_dk dn_258_0_0_ok 2 rfl)))
  (e_Lok (e_st (I := eI) (er_aaload (x_dk dn_258_0_0_ok 3 rfl)) nx_aald))))
  (e_Tok2
  (e_Tok2
  (e_Lok (lk_11_123g ho_258 (x_dk dn_258_0_0_ok 4 rfl)))
  (e_Lok (ld_iload_n_2 (x_dk dn_258_0_0_ok 5 rfl))))
  (e_Tok2
  (e_Lok (e_st (I := eI) (er_aaload (x_dk dn_258_0_0_ok 6 rfl)) nx_aald))
  (e_Lok (lk_11_326g ho_258 (x_dk dn_258_0_0_ok 7 rfl))))))
  (e_Tok2
  (e_Tok2
  (e_Tok2
  (e_Lok (e_st (I := eI) (er_istore (i := 4) (x_dk dn_258_0_0_ok 8 rfl) (by decide +kernel)) nx_stor))
  (e_Lok (ld_iload_n_3 (x_dk dn_258_0_0_ok 9 rfl))))
  (e_Tok2
  (e_Lok (ld_iload_4 (x_dk dn_258_0_0_ok 10 rfl)))
  (e_Lok (e_st (I := eI) (er_icmpeq (off := 35) (tg := 54) (x_dk dn_258_0_0_ok 11 rfl) (by decide)) nx_if2))))
  (e_Tok2
  (e_Tok2
  (e_Lok (ld_aload_n_0 (x_dk dn_258_0_0_ok 12 rfl)))
  (e_Lok (lk_11_27g ho_258 (x_dk dn_258_0_0_ok 13 rfl))))
  (e_Tok2
  (e_Lok (ld_iload_n_1 (x_dk dn_258_0_0_ok 14 rfl)))
  (e_Lok (e_st (I := eI) (er_aaload (x_dk dn_258_0_0_ok 15 rfl)) nx_aald))))))
  (e_Tok2
  (e_Tok2
  (e_Tok2
  (e_Tok2
  (e_Lok (lk_11_123g ho_258 (x_dk dn_258_0_0_ok 16 rfl)))
  (e_Lok (ld_iload_n_2 (x_dk dn_258_0_0_ok 17 rfl))))
  (e_Tok2
  (e_Lok (e_st (I := eI) (er_aaload (x_dk dn_258_0_0_ok 18 rfl)) nx_aald))
  (e_Lok (ld_iload_n_3 (x_dk dn_258_0_0_ok 19 rfl)))))
  (e_Tok2
  (e_Tok2
  (e_Lok (lk_11_326p ho_258 (x_dk dn_258_0_0_ok 20 rfl)))
  (e_Lok (ld_aload_n_0 (x_dk dn_258_0_0_ok 21 rfl))))
  (e_Tok2
  (e_Lok (lk_11_27g ho_258 (x_dk dn_258_0_0_ok 22 rfl)))
  (e_Lok (ld_iload_n_1 (x_dk dn_258_0_0_ok 23 rfl))))))
  (e_Tok2
  (e_Tok2
  (e_Tok2
  (e_Lok (e_st (I := eI) (er_aaload (x_dk dn_258_0_0_ok 24 rfl)) nx_aald))
  (e_Lok (lk_11_466 ho_258 (x_dk dn_258_0_1_ok 0 rfl))))
  (e_Tok2
  (e_Lok (ld_aload_n_0 (x_dk dn_258_0_1_ok 1 rfl)))
  (e_Lok (lk_11_19g ho_258 (x_dk dn_258_0_1_ok 2 rfl)))))
  (e_Tok2
  (e_Tok2
  (e_Lok (ld_iload_n_1 (x_dk dn_258_0_1_ok 3 rfl)))
  (e_Lok (lk_11_468 ho_258 (x_dk dn_258_0_1_ok 4 rfl))))
  (e_Tok2
  (e_Lok (ld_iload_4 (x_dk dn_258_0_1_ok 5 rfl)))
  (e_Lok (e_rt (I := eI) (k := 1) ⟨(x_dk dn_258_0_1_ok 6 rfl), rfl⟩)))))))
def te_258 : Nat → eE := te_258_0
theorem te_258_ok : ∀ pc, e_EOq eft cls elay eI n_258 pc (te_258 pc) := te_258_0_ok
theorem ho_259 : (xm_y n_259).cls = "RobotCellHouse" := rfl
def dn_259_0_0 : List (Nat × Instr × Nat) := [(0, .aload_n 0, 1), (1, .getfield 42, 3), (4, .dup, 1), (5, .getfield 86, 3), (8, .iconst 1, 1), (9, .iadd, 1), (10, .putfield 86, 3), (13, .aload_n 0, 1), (14, .getfield 42, 3), (17, .invokevirtual 471, 3), (20, .istore_n 1, 1), (21, .aload_n 0, 1), (22, .getfield 42, 3), (25, .getfield 274, 3), (28, .ifCond .eq 13, 3), (31, .iload_n 1, 1), (32, .ifCond .lt 9, 3), (35, .aload_n 0, 1), (36, .iconst 1, 1), (37, .iload_n 1, 1), (38, .invokevirtual 460, 3), (41, .iconst 0, 1), (42, .istore_n 2, 1), (43, .iload_n 2, 1), (44, .bipush 16, 2)]
set_option maxRecDepth 20000 in
theorem dn_259_0_0_ok : dn_259_0_0.all (fun q => decide (decode (xm_b n_259) q.1 = .ok (q.2.1, q.2.2))) = true := xa_g_ok (by decide +kernel)
def dn_259_0_1 : List (Nat × Instr × Nat) := [(46, .if_icmp .ge 36, 3), (49, .aload_n 0, 1), (50, .getfield 19, 3), (53, .iload_n 2, 1), (54, .invokevirtual 474, 3), (57, .ifCond .eq 19, 3), (60, .aload_n 0, 1), (61, .getfield 19, 3), (64, .aload_n 0, 1), (65, .getfield 19, 3), (68, .getfield 338, 3), (71, .iload_n 2, 1), (72, .aaload, 1), (73, .invokevirtual 477, 3), (76, .iinc 2 1, 3), (79, .goto (-36), 3), (82, .iconst 0, 1), (83, .istore_n 2, 1), (84, .iload_n 2, 1), (85, .aload_n 0, 1), (86, .getfield 94, 3), (89, .if_icmp .ge 14, 3), (92, .aload_n 0, 1), (93, .iload_n 2, 1), (94, .invokevirtual 481, 3)]
set_option maxRecDepth 20000 in
theorem dn_259_0_1_ok : dn_259_0_1.all (fun q => decide (decode (xm_b n_259) q.1 = .ok (q.2.1, q.2.2))) = true := xa_g_ok (by decide +kernel)
def dn_259_0_2 : List (Nat × Instr × Nat) := [(97, .iinc 2 1, 3), (100, .goto (-16), 3), (103, .aload_n 0, 1), (104, .getfield 42, 3), (107, .getfield 274, 3), (110, .ifCond .eq 7, 3), (113, .aload_n 0, 1), (114, .invokevirtual 484, 3), (117, .iconst 0, 1), (118, .istore_n 2, 1), (119, .iload_n 2, 1), (120, .aload_n 0, 1), (121, .getfield 37, 3), (124, .getfield 167, 3), (127, .if_icmp .ge 62, 3), (130, .aload_n 0, 1), (131, .getfield 37, 3), (134, .iload_n 2, 1), (135, .invokevirtual 487, 3), (138, .aload_n 0, 1), (139, .getfield 37, 3), (142, .getfield 181, 3), (145, .iload_n 2, 1), (146, .iaload, 1), (147, .ifCond .lt 36, 3)]
set_option maxRecDepth 20000 in
theorem dn_259_0_2_ok : dn_259_0_2.all (fun q => decide (decode (xm_b n_259) q.1 = .ok (q.2.1, q.2.2))) = true := xa_g_ok (by decide +kernel)
def dn_259_0_3 : List (Nat × Instr × Nat) := [(150, .aload_n 0, 1), (151, .getfield 32, 3), (154, .aload_n 0, 1), (155, .getfield 37, 3), (158, .getfield 181, 3), (161, .iload_n 2, 1), (162, .iaload, 1), (163, .aload_n 0, 1), (164, .getfield 37, 3), (167, .iload_n 2, 1), (168, .invokevirtual 488, 3), (171, .ifCond .eq 7, 3), (174, .iconst 1, 1), (175, .goto 4, 3), (178, .iconst 0, 1), (179, .invokevirtual 429, 3), (182, .pop, 1), (183, .iinc 2 1, 3), (186, .goto (-67), 3), (189, .iconst 0, 1), (190, .istore_n 2, 1), (191, .iload_n 2, 1), (192, .aload_n 0, 1), (193, .getfield 94, 3), (196, .if_icmp .ge 18, 3)]
set_option maxRecDepth 20000 in
theorem dn_259_0_3_ok : dn_259_0_3.all (fun q => decide (decode (xm_b n_259) q.1 = .ok (q.2.1, q.2.2))) = true := xa_g_ok (by decide +kernel)
def dn_259_1_0 : List (Nat × Instr × Nat) := [(199, .aload_n 0, 1), (200, .getfield 27, 3), (203, .iload_n 2, 1), (204, .aaload, 1), (205, .invokevirtual 491, 3), (208, .iinc 2 1, 3), (211, .goto (-20), 3), (214, .aload_n 0, 1), (215, .getfield 67, 3), (218, .ifCond .eq 27, 3), (221, .aload_n 0, 1), (222, .getfield 64, 3), (225, .iconst 3, 1), (226, .dup2, 1), (227, .iaload, 1), (228, .aload_n 0, 1), (229, .getfield 37, 3), (232, .aload_n 0, 1), (233, .getfield 27, 3), (236, .aload_n 0, 1), (237, .getfield 94, 3), (240, .invokevirtual 494, 3), (243, .iadd, 1), (244, .iastore, 1), (245, .return_, 1)]
set_option maxRecDepth 20000 in
theorem dn_259_1_0_ok : dn_259_1_0.all (fun q => decide (decode (xm_b n_259) q.1 = .ok (q.2.1, q.2.2))) = true := xa_g_ok (by decide +kernel)
def te_259_0 : Nat → eE := (e_T 28 (e_T 10 (e_T 4 (e_T 0 (e_L 0 (0, ei_load 0 2 1, 0, 0)) (e_T 1 (e_L 1 (0, ei_getf eft elay 11 5 4, 0, 0)) (e_L 4 (0, ei_stk ef_dup 5, 0, 0)))) (e_T 8 (e_T 5 (e_L 5 (0, ei_getf eft elay 2 0 8, 0, 0)) (e_L 8 (0, ei_push (0, 1) 9, 0, 0))) (e_T 9 (e_L 9 (0, ei_bin eF_add 10, 0, 0)) (e_L 10 (0, ei_putf eft elay 2 0 0 13, 0, 0))))) (e_T 20 (e_T 14 (e_T 13 (e_L 13 (0, ei_load 0 2 14, 0, 0)) (e_L 14 (0, ei_getf eft elay 11 5 17, 0, 0))) (e_T 17 (e_L 17 (2, e_nof, 32, 1)) (e_L 20 (0, ei_stor 1 0 21, 0, 0)))) (e_T 22 (e_T 21 (e_L 21 (0, ei_load 0 2 22, 0, 0)) (e_L 22 (0, ei_getf eft elay 11 5 25, 0, 0))) (e_T 25 (e_L 25 (0, ei_getf eft elay 2 3 28, 0, 0)) (e_L 28 (0, ei_if1 0 41 31, 0, 0)))))) (e_T 42 (e_T 36 (e_T 32 (e_T 31 (e_L 31 (0, ei_load 1 0 32, 0, 0)) (e_L 32 (0, ei_if1 2 41 35, 0, 0))) (e_T 35 (e_L 35 (0, ei_load 0 2 36, 0, 0)) (e_L 36 (0, ei_push (0, 1) 37, 0, 0)))) (e_T 38 (e_T 37 (e_L 37 (0, ei_load 1 0 38, 0, 0)) (e_L 38 (2, e_nof, 265, 3))) (e_T 41 (e_L 41 (0, ei_push (0, 0) 42, 0, 0)) (e_L 42 (0, ei_stor 2 0 43, 0, 0))))) (e_T 49 (e_T 44 (e_T 43 (e_L 43 (0, ei_load 2 0 44, 0, 0)) (e_L 44 (0, ei_push (0, 16) 46, 0, 0))) (e_T 46 (e_L 46 (0, ei_if2 3 82 49, 0, 0)) (e_L 49 (0, ei_load 0 2 50, 0, 0)))) (e_T 53 (e_T 50 (e_L 50 (0, ei_getf eft elay 11 1 53, 0, 0)) (e_L 53 (0, ei_load 2 0 54, 0, 0))) (e_T 54 (e_L 54 (2, e_nof, 42, 2)) (e_L 57 (0, ei_if1 0 76 60, 0, 0)))))))
set_option maxRecDepth 20000 in
set_option maxHeartbeats 4000000 in
theorem te_259_0_ok : ∀ pc, e_EOq eft cls elay eI n_259 pc (te_259_0 pc) :=
  (e_Tok2
  (e_Tok2
  (e_Tok2
  (e_Tok2
  (e_Lok (ld_aload_n_0 (x_dk dn_259_0_0_ok 0 rfl)))
  (e_Tok2
  (e_Lok (lk_11_42g ho_259 (x_dk dn_259_0_0_ok 1 rfl)))
  (e_Lok (e_st (I := eI) (er_dup (x_dk dn_259_0_0_ok 2 rfl)) (nx_stk bf_dup)))))
  (e_Tok2
  (e_Tok2
  (e_Lok (lk_11_86g ho_259 (x_dk dn_259_0_0_ok 3 rfl)))
  (e_Lok (ps_iconst_1 (x_dk dn_259_0_0_ok 4 rfl))))
  (e_Tok2
  (e_Lok (sm_iadd (x_dk dn_259_0_0_ok 5 rfl)))
  (e_Lok (lk_11_86p ho_259 (x_dk dn_259_0_0_ok 6 rfl))))))
  (e_Tok2
  (e_Tok2
  (e_Tok2
  (e_Lok (ld_aload_n_0 (x_dk dn_259_0_0_ok 7 rfl)))
  (e_Lok (lk_11_42g ho_259 (x_dk dn_259_0_0_ok 8 rfl))))
  (e_Tok2
  (e_Lok (lk_11_471 ho_259 (x_dk dn_259_0_0_ok 9 rfl)))
  (e_Lok (e_st (I := eI) (er_istore_n (i := 1) (x_dk dn_259_0_0_ok 10 rfl) (by decide +kernel)) nx_stor))))
  (e_Tok2
  (e_Tok2
  (e_Lok (ld_aload_n_0 (x_dk dn_259_0_0_ok 11 rfl)))
  (e_Lok (lk_11_42g ho_259 (x_dk dn_259_0_0_ok 12 rfl))))
  (e_Tok2
  (e_Lok (lk_11_274g ho_259 (x_dk dn_259_0_0_ok 13 rfl)))
  (e_Lok (e_st (I := eI) (er_ifeq (off := 13) (tg := 41) (x_dk dn_259_0_0_ok 14 rfl) (by decide)) nx_if1))))))
  (e_Tok2
  (e_Tok2
  (e_Tok2
  (e_Tok2
  (e_Lok (ld_iload_n_1 (x_dk dn_259_0_0_ok 15 rfl)))
  (e_Lok (e_st (I := eI) (er_iflt (off := 9) (tg := 41) (x_dk dn_259_0_0_ok 16 rfl) (by decide)) nx_if1)))
  (e_Tok2
  (e_Lok (ld_aload_n_0 (x_dk dn_259_0_0_ok 17 rfl)))
  (e_Lok (ps_iconst_1 (x_dk dn_259_0_0_ok 18 rfl)))))
  (e_Tok2
  (e_Tok2
  (e_Lok (ld_iload_n_1 (x_dk dn_259_0_0_ok 19 rfl)))
  (e_Lok (lk_11_460 ho_259 (x_dk dn_259_0_0_ok 20 rfl))))
  (e_Tok2
  (e_Lok (ps_iconst_0 (x_dk dn_259_0_0_ok 21 rfl)))
  (e_Lok (e_st (I := eI) (er_istore_n (i := 2) (x_dk dn_259_0_0_ok 22 rfl) (by decide +kernel)) nx_stor)))))
  (e_Tok2
  (e_Tok2
  (e_Tok2
  (e_Lok (ld_iload_n_2 (x_dk dn_259_0_0_ok 23 rfl)))
  (e_Lok (ps_bipush_16 (x_dk dn_259_0_0_ok 24 rfl))))
  (e_Tok2
  (e_Lok (e_st (I := eI) (er_icmpge (off := 36) (tg := 82) (x_dk dn_259_0_1_ok 0 rfl) (by decide)) nx_if2))
  (e_Lok (ld_aload_n_0 (x_dk dn_259_0_1_ok 1 rfl)))))
  (e_Tok2
  (e_Tok2
  (e_Lok (lk_11_19g ho_259 (x_dk dn_259_0_1_ok 2 rfl)))
  (e_Lok (ld_iload_n_2 (x_dk dn_259_0_1_ok 3 rfl))))
  (e_Tok2
  (e_Lok (lk_11_474 ho_259 (x_dk dn_259_0_1_ok 4 rfl)))
  (e_Lok (e_st (I := eI) (er_ifeq (off := 19) (tg := 76) (x_dk dn_259_0_1_ok 5 rfl) (by decide)) nx_if1)))))))
def te_259_31 : Nat → eE := (e_T 86 (e_T 72 (e_T 64 (e_T 60 (e_L 60 (0, ei_load 0 2 61, 0, 0)) (e_T 61 (e_L 61 (0, ei_getf eft elay 11 1 64, 0, 0)) (e_L 64 (0, ei_load 0 2 65, 0, 0)))) (e_T 68 (e_T 65 (e_L 65 (0, ei_getf eft elay 11 1 68, 0, 0)) (e_L 68 (0, ei_getf eft elay 3 4 71, 0, 0))) (e_T 71 (e_L 71 (0, ei_load 2 0 72, 0, 0)) (e_L 72 (0, ei_aald elay 73, 0, 0))))) (e_T 82 (e_T 76 (e_T 73 (e_L 73 (2, e_nof, 43, 2)) (e_L 76 (0, ei_inc 2 1 79, 0, 0))) (e_T 79 (e_L 79 (0, ei_goto 43, 0, 0)) (e_L 82 (0, ei_push (0, 0) 83, 0, 0)))) (e_T 84 (e_T 83 (e_L 83 (0, ei_stor 2 0 84, 0, 0)) (e_L 84 (0, ei_load 2 0 85, 0, 0))) (e_T 85 (e_L 85 (0, ei_load 0 2 86, 0, 0)) (e_L 86 (0, ei_getf eft elay 11 11 89, 0, 0)))))) (e_T 104 (e_T 94 (e_T 92 (e_T 89 (e_L 89 (0, ei_if2 3 103 92, 0, 0)) (e_L 92 (0, ei_load 0 2 93, 0, 0))) (e_T 93 (e_L 93 (0, ei_load 2 0 94, 0, 0)) (e_L 94 (2, e_nof, 260, 2)))) (e_T 100 (e_T 97 (e_L 97 (0, ei_inc 2 1 100, 0, 0)) (e_L 100 (0, ei_goto 84, 0, 0))) (e_T 103 (e_L 103 (0, ei_load 0 2 104, 0, 0)) (e_L 104 (0, ei_getf eft elay 11 5 107, 0, 0))))) (e_T 114 (e_T 110 (e_T 107 (e_L 107 (0, ei_getf eft elay 2 3 110, 0, 0)) (e_L 110 (0, ei_if1 0 117 113, 0, 0))) (e_T 113 (e_L 113 (0, ei_load 0 2 114, 0, 0)) (e_L 114 (2, e_nof, 262, 1)))) (e_T 118 (e_T 117 (e_L 117 (0, ei_push (0, 0) 118, 0, 0)) (e_L 118 (0, ei_stor 2 0 119, 0, 0))) (e_T 119 (e_L 119 (0, ei_load 2 0 120, 0, 0)) (e_L 120 (0, ei_load 0 2 121, 0, 0)))))))
set_option maxRecDepth 20000 in
set_option maxHeartbeats 4000000 in
theorem te_259_31_ok : ∀ pc, e_EOq eft cls elay eI n_259 pc (te_259_31 pc) :=
  (e_Tok2
  (e_Tok2
  (e_Tok2
  (e_Tok2
  (e_Lok (ld_aload_n_0 (x_dk dn_259_0_1_ok 6 rfl)))
  (e_Tok2
  (e_Lok (lk_11_19g ho_259 (x_dk dn_259_0_1_ok 7 rfl)))
  (e_Lok (ld_aload_n_0 (x_dk dn_259_0_1_ok 8 rfl)))))
  (e_Tok2
  (e_Tok2
  (e_Lok (lk_11_19g ho_259 (x_dk dn_259_0_1_ok 9 rfl)))
  (e_Lok (lk_11_338g ho_259 (x_dk dn_259_0_1_ok 10 rfl))))
  (e_Tok2
  (e_Lok (ld_iload_n_2 (x_dk dn_259_0_1_ok 11 rfl)))
  (e_Lok (e_st (I := eI) (er_aaload (x_dk dn_259_0_1_ok 12 rfl)) nx_aald)))))
  (e_Tok2
  (e_Tok2
  (e_Tok2
  (e_Lok (lk_11_477 ho_259 (x_dk dn_259_0_1_ok 13 rfl)))
  (e_Lok (e_st (I := eI) (er_iinc (i := 2) (n := 1) (x_dk dn_259_0_1_ok 14 rfl) (by decide +kernel) (by decide)) nx_inc)))
  (e_Tok2
  (e_Lok (e_st (I := eI) (er_goto (off := (-36)) (tg := 43) (x_dk dn_259_0_1_ok 15 rfl) (by decide)) nx_goto))
  (e_Lok (ps_iconst_0 (x_dk dn_259_0_1_ok 16 rfl)))))
  (e_Tok2
  (e_Tok2
  (e_Lok (e_st (I := eI) (er_istore_n (i := 2) (x_dk dn_259_0_1_ok 17 rfl) (by decide +kernel)) nx_stor))
  (e_Lok (ld_iload_n_2 (x_dk dn_259_0_1_ok 18 rfl))))
  (e_Tok2
  (e_Lok (ld_aload_n_0 (x_dk dn_259_0_1_ok 19 rfl)))
  (e_Lok (lk_11_94g ho_259 (x_dk dn_259_0_1_ok 20 rfl)))))))
  (e_Tok2
  (e_Tok2
  (e_Tok2
  (e_Tok2
  (e_Lok (e_st (I := eI) (er_icmpge (off := 14) (tg := 103) (x_dk dn_259_0_1_ok 21 rfl) (by decide)) nx_if2))
  (e_Lok (ld_aload_n_0 (x_dk dn_259_0_1_ok 22 rfl))))
  (e_Tok2
  (e_Lok (ld_iload_n_2 (x_dk dn_259_0_1_ok 23 rfl)))
  (e_Lok (lk_11_481 ho_259 (x_dk dn_259_0_1_ok 24 rfl)))))
  (e_Tok2
  (e_Tok2
  (e_Lok (e_st (I := eI) (er_iinc (i := 2) (n := 1) (x_dk dn_259_0_2_ok 0 rfl) (by decide +kernel) (by decide)) nx_inc))
  (e_Lok (e_st (I := eI) (er_goto (off := (-16)) (tg := 84) (x_dk dn_259_0_2_ok 1 rfl) (by decide)) nx_goto)))
  (e_Tok2
  (e_Lok (ld_aload_n_0 (x_dk dn_259_0_2_ok 2 rfl)))
  (e_Lok (lk_11_42g ho_259 (x_dk dn_259_0_2_ok 3 rfl))))))
  (e_Tok2
  (e_Tok2
  (e_Tok2
  (e_Lok (lk_11_274g ho_259 (x_dk dn_259_0_2_ok 4 rfl)))
  (e_Lok (e_st (I := eI) (er_ifeq (off := 7) (tg := 117) (x_dk dn_259_0_2_ok 5 rfl) (by decide)) nx_if1)))
  (e_Tok2
  (e_Lok (ld_aload_n_0 (x_dk dn_259_0_2_ok 6 rfl)))
  (e_Lok (lk_11_484 ho_259 (x_dk dn_259_0_2_ok 7 rfl)))))
  (e_Tok2
  (e_Tok2
  (e_Lok (ps_iconst_0 (x_dk dn_259_0_2_ok 8 rfl)))
  (e_Lok (e_st (I := eI) (er_istore_n (i := 2) (x_dk dn_259_0_2_ok 9 rfl) (by decide +kernel)) nx_stor)))
  (e_Tok2
  (e_Lok (ld_iload_n_2 (x_dk dn_259_0_2_ok 10 rfl)))
  (e_Lok (ld_aload_n_0 (x_dk dn_259_0_2_ok 11 rfl))))))))
def te_259_62 : Nat → eE := (e_T 151 (e_T 135 (e_T 127 (e_T 121 (e_L 121 (0, ei_getf eft elay 11 4 124, 0, 0)) (e_T 124 (e_L 124 (0, ei_getf eft elay 4 0 127, 0, 0)) (e_L 127 (0, ei_if2 3 189 130, 0, 0)))) (e_T 131 (e_T 130 (e_L 130 (0, ei_load 0 2 131, 0, 0)) (e_L 131 (0, ei_getf eft elay 11 4 134, 0, 0))) (e_T 134 (e_L 134 (0, ei_load 2 0 135, 0, 0)) (e_L 135 (2, e_nof, 86, 2))))) (e_T 145 (e_T 139 (e_T 138 (e_L 138 (0, ei_load 0 2 139, 0, 0)) (e_L 139 (0, ei_getf eft elay 11 4 142, 0, 0))) (e_T 142 (e_L 142 (0, ei_getf eft elay 4 4 145, 0, 0)) (e_L 145 (0, ei_load 2 0 146, 0, 0)))) (e_T 147 (e_T 146 (e_L 146 (0, ei_ald elay false 147, 0, 0)) (e_L 147 (0, ei_if1 2 183 150, 0, 0))) (e_T 150 (e_L 150 (0, ei_load 0 2 151, 0, 0)) (e_L 151 (0, ei_getf eft elay 11 3 154, 0, 0)))))) (e_T 167 (e_T 161 (e_T 155 (e_T 154 (e_L 154 (0, ei_load 0 2 155, 0, 0)) (e_L 155 (0, ei_getf eft elay 11 4 158, 0, 0))) (e_T 158 (e_L 158 (0, ei_getf eft elay 4 4 161, 0, 0)) (e_L 161 (0, ei_load 2 0 162, 0, 0)))) (e_T 163 (e_T 162 (e_L 162 (0, ei_ald elay false 163, 0, 0)) (e_L 163 (0, ei_load 0 2 164, 0, 0))) (e_T 164 (e_L 164 (0, ei_getf eft elay 11 4 167, 0, 0)) (e_L 167 (0, ei_load 2 0 168, 0, 0))))) (e_T 175 (e_T 171 (e_T 168 (e_L 168 (2, e_nof, 87, 2)) (e_L 171 (0, ei_if1 0 178 174, 0, 0))) (e_T 174 (e_L 174 (0, ei_push (0, 1) 175, 0, 0)) (e_L 175 (0, ei_goto 179, 0, 0)))) (e_T 179 (e_T 178 (e_L 178 (0, ei_push (0, 0) 179, 0, 0)) (e_L 179 (2, e_nof, 113, 3))) (e_T 182 (e_L 182 (0, ei_stk ef_pop 183, 0, 0)) (e_L 183 (0, ei_inc 2 1 186, 0, 0)))))))
set_option maxRecDepth 20000 in
set_option maxHeartbeats 4000000 in
theorem te_259_62_ok : ∀ pc, e_EOq eft cls elay eI n_259 pc (te_259_62 pc) :=
  (e_Tok2
  (e_Tok2
  (e_Tok2
  (e_Tok2
  (e_Lok (lk_11_37g ho_259 (x_dk dn_259_0_2_ok 12 rfl)))
  (e_Tok2
  (e_Lok (lk_11_167g ho_259 (x_dk dn_259_0_2_ok 13 rfl)))
  (e_Lok (e_st (I := eI) (er_icmpge (off := 62) (tg := 189) (x_dk dn_259_0_2_ok 14 rfl) (by decide)) nx_if2))))
  (e_Tok2
  (e_Tok2
  (e_Lok (ld_aload_n_0 (x_dk dn_259_0_2_ok 15 rfl)))
  (e_Lok (lk_11_37g ho_259 (x_dk dn_259_0_2_ok 16 rfl))))
  (e_Tok2
  (e_Lok (ld_iload_n_2 (x_dk dn_259_0_2_ok 17 rfl)))
  (e_Lok (lk_11_487 ho_259 (x_dk dn_259_0_2_ok 18 rfl))))))
  (e_Tok2
  (e_Tok2
  (e_Tok2
  (e_Lok (ld_aload_n_0 (x_dk dn_259_0_2_ok 19 rfl)))
  (e_Lok (lk_11_37g ho_259 (x_dk dn_259_0_2_ok 20 rfl))))
  (e_Tok2
  (e_Lok (lk_11_181g ho_259 (x_dk dn_259_0_2_ok 21 rfl)))
  (e_Lok (ld_iload_n_2 (x_dk dn_259_0_2_ok 22 rfl)))))
  (e_Tok2
  (e_Tok2
  (e_Lok (sm_iaload (x_dk dn_259_0_2_ok 23 rfl)))
  (e_Lok (e_st (I := eI) (er_iflt (off := 36) (tg := 183) (x_dk dn_259_0_2_ok 24 rfl) (by decide)) nx_if1)))
  (e_Tok2
  (e_Lok (ld_aload_n_0 (x_dk dn_259_0_3_ok 0 rfl)))
  (e_Lok (lk_11_32g ho_259 (x_dk dn_259_0_3_ok 1 rfl)))))))
  (e_Tok2
  (e_Tok2
  (e_Tok2
  (e_Tok2
  (e_Lok (ld_aload_n_0 (x_dk dn_259_0_3_ok 2 rfl)))
  (e_Lok (lk_11_37g ho_259 (x_dk dn_259_0_3_ok 3 rfl))))
  (e_Tok2
  (e_Lok (lk_11_181g ho_259 (x_dk dn_259_0_3_ok 4 rfl)))
  (e_Lok (ld_iload_n_2 (x_dk dn_259_0_3_ok 5 rfl)))))
  (e_Tok2
  (e_Tok2
  (e_Lok (sm_iaload (x_dk dn_259_0_3_ok 6 rfl)))
  (e_Lok (ld_aload_n_0 (x_dk dn_259_0_3_ok 7 rfl))))
  (e_Tok2
  (e_Lok (lk_11_37g ho_259 (x_dk dn_259_0_3_ok 8 rfl)))
  (e_Lok (ld_iload_n_2 (x_dk dn_259_0_3_ok 9 rfl))))))
  (e_Tok2
  (e_Tok2
  (e_Tok2
  (e_Lok (lk_11_488 ho_259 (x_dk dn_259_0_3_ok 10 rfl)))
  (e_Lok (e_st (I := eI) (er_ifeq (off := 7) (tg := 178) (x_dk dn_259_0_3_ok 11 rfl) (by decide)) nx_if1)))
  (e_Tok2
  (e_Lok (ps_iconst_1 (x_dk dn_259_0_3_ok 12 rfl)))
  (e_Lok (e_st (I := eI) (er_goto (off := 4) (tg := 179) (x_dk dn_259_0_3_ok 13 rfl) (by decide)) nx_goto))))
  (e_Tok2
  (e_Tok2
  (e_Lok (ps_iconst_0 (x_dk dn_259_0_3_ok 14 rfl)))
  (e_Lok (lk_11_429 ho_259 (x_dk dn_259_0_3_ok 15 rfl))))
  (e_Tok2
  (e_Lok (e_st (I := eI) (er_pop (x_dk dn_259_0_3_ok 16 rfl)) (nx_stk bf_pop)))
  (e_Lok (e_st (I := eI) (er_iinc (i := 2) (n := 1) (x_dk dn_259_0_3_ok 17 rfl) (by decide +kernel) (by decide)) nx_inc)))))))
def te_259_93 : Nat → eE := (e_T 215 (e_T 199 (e_T 191 (e_T 189 (e_T 186 (e_L 186 (0, ei_goto 119, 0, 0)) (e_L 189 (0, ei_push (0, 0) 190, 0, 0))) (e_T 190 (e_L 190 (0, ei_stor 2 0 191, 0, 0)) (e_L 191 (0, ei_load 2 0 192, 0, 0)))) (e_T 193 (e_T 192 (e_L 192 (0, ei_load 0 2 193, 0, 0)) (e_L 193 (0, ei_getf eft elay 11 11 196, 0, 0))) (e_T 196 (e_L 196 (0, ei_if2 3 214 199, 0, 0)) (e_L 199 (0, ei_load 0 2 200, 0, 0))))) (e_T 205 (e_T 203 (e_T 200 (e_L 200 (0, ei_getf eft elay 11 2 203, 0, 0)) (e_L 203 (0, ei_load 2 0 204, 0, 0))) (e_T 204 (e_L 204 (0, ei_aald elay 205, 0, 0)) (e_L 205 (2, e_nof, 11, 1)))) (e_T 211 (e_T 208 (e_L 208 (0, ei_inc 2 1 211, 0, 0)) (e_L 211 (0, ei_goto 191, 0, 0))) (e_T 214 (e_L 214 (0, ei_load 0 2 215, 0, 0)) (e_L 215 (0, ei_getf eft elay 11 14 218, 0, 0)))))) (e_T 229 (e_T 225 (e_T 221 (e_T 218 (e_L 218 (0, ei_if1 0 245 221, 0, 0)) (e_L 221 (0, ei_load 0 2 222, 0, 0))) (e_T 222 (e_L 222 (0, ei_getf eft elay 11 10 225, 0, 0)) (e_L 225 (0, ei_push (0, 3) 226, 0, 0)))) (e_T 227 (e_T 226 (e_L 226 (0, ei_stk ef_dup2 227, 0, 0)) (e_L 227 (0, ei_ald elay false 228, 0, 0))) (e_T 228 (e_L 228 (0, ei_load 0 2 229, 0, 0)) (e_L 229 (0, ei_getf eft elay 11 4 232, 0, 0))))) (e_T 237 (e_T 233 (e_T 232 (e_L 232 (0, ei_load 0 2 233, 0, 0)) (e_L 233 (0, ei_getf eft elay 11 2 236, 0, 0))) (e_T 236 (e_L 236 (0, ei_load 0 2 237, 0, 0)) (e_L 237 (0, ei_getf eft elay 11 11 240, 0, 0)))) (e_T 243 (e_T 240 (e_L 240 (2, e_nof, 88, 3)) (e_L 243 (0, ei_bin eF_add 244, 0, 0))) (e_T 244 (e_L 244 (0, ei_ast elay false 245, 0, 0)) (e_L 245 (1, e_nof, 0, 0)))))))
set_option maxRecDepth 20000 in
set_option maxHeartbeats 4000000 in
theorem te_259_93_ok : ∀ pc, e_EOq eft cls elay eI n_259 pc (te_259_93 pc) :=
  (e_Tok2
  (e_Tok2
  (e_Tok2
  (e_Tok2
  (e_Tok2
  (e_Lok (e_st (I := eI) (er_goto (off := (-67)) (tg := 119) (x_dk dn_259_0_3_ok 18 rfl) (by decide)) nx_goto))
  (e_Lok (ps_iconst_0 (x_dk dn_259_0_3_ok 19 rfl))))
  (e_Tok2
  (e_Lok (e_st (I := eI) (er_istore_n (i := 2) (x_dk dn_259_0_3_ok 20 rfl) (by decide +kernel)) nx_stor))
  (e_Lok (ld_iload_n_2 (x_dk dn_259_0_3_ok 21 rfl)))))
  (e_Tok2
  (e_Tok2
  (e_Lok (ld_aload_n_0 (x_dk dn_259_0_3_ok 22 rfl)))
  (e_Lok (lk_11_94g ho_259 (x_dk dn_259_0_3_ok 23 rfl))))
  (e_Tok2
  (e_Lok (e_st (I := eI) (er_icmpge (off := 18) (tg := 214) (x_dk dn_259_0_3_ok 24 rfl) (by decide)) nx_if2))
  (e_Lok (ld_aload_n_0 (x_dk dn_259_1_0_ok 0 rfl))))))
  (e_Tok2
  (e_Tok2
  (e_Tok2
  (e_Lok (lk_11_27g ho_259 (x_dk dn_259_1_0_ok 1 rfl)))
  (e_Lok (ld_iload_n_2 (x_dk dn_259_1_0_ok 2 rfl))))
  (e_Tok2
  (e_Lok (e_st (I := eI) (er_aaload (x_dk dn_259_1_0_ok 3 rfl)) nx_aald))
  (e_Lok (lk_11_491 ho_259 (x_dk dn_259_1_0_ok 4 rfl)))))
  (e_Tok2
  (e_Tok2
  (e_Lok (e_st (I := eI) (er_iinc (i := 2) (n := 1) (x_dk dn_259_1_0_ok 5 rfl) (by decide +kernel) (by decide)) nx_inc))
  (e_Lok (e_st (I := eI) (er_goto (off := (-20)) (tg := 191) (x_dk dn_259_1_0_ok 6 rfl) (by decide)) nx_goto)))
  (e_Tok2
  (e_Lok (ld_aload_n_0 (x_dk dn_259_1_0_ok 7 rfl)))
  (e_Lok (lk_11_67g ho_259 (x_dk dn_259_1_0_ok 8 rfl)))))))
  (e_Tok2
  (e_Tok2
  (e_Tok2
  (e_Tok2
  (e_Lok (e_st (I := eI) (er_ifeq (off := 27) (tg := 245) (x_dk dn_259_1_0_ok 9 rfl) (by decide)) nx_if1))
  (e_Lok (ld_aload_n_0 (x_dk dn_259_1_0_ok 10 rfl))))
  (e_Tok2
  (e_Lok (lk_11_64g ho_259 (x_dk dn_259_1_0_ok 11 rfl)))
  (e_Lok (ps_iconst_3 (x_dk dn_259_1_0_ok 12 rfl)))))
  (e_Tok2
  (e_Tok2
  (e_Lok (e_st (I := eI) (er_dup2 (x_dk dn_259_1_0_ok 13 rfl)) (nx_stk bf_dup2)))
  (e_Lok (sm_iaload (x_dk dn_259_1_0_ok 14 rfl))))
  (e_Tok2
  (e_Lok (ld_aload_n_0 (x_dk dn_259_1_0_ok 15 rfl)))
  (e_Lok (lk_11_37g ho_259 (x_dk dn_259_1_0_ok 16 rfl))))))
  (e_Tok2
  (e_Tok2
  (e_Tok2
  (e_Lok (ld_aload_n_0 (x_dk dn_259_1_0_ok 17 rfl)))
  (e_Lok (lk_11_27g ho_259 (x_dk dn_259_1_0_ok 18 rfl))))
  (e_Tok2
  (e_Lok (ld_aload_n_0 (x_dk dn_259_1_0_ok 19 rfl)))
  (e_Lok (lk_11_94g ho_259 (x_dk dn_259_1_0_ok 20 rfl)))))
  (e_Tok2
  (e_Tok2
  (e_Lok (lk_11_494 ho_259 (x_dk dn_259_1_0_ok 21 rfl)))
  (e_Lok (sm_iadd (x_dk dn_259_1_0_ok 22 rfl))))
  (e_Tok2
  (e_Lok (sm_iastore (x_dk dn_259_1_0_ok 23 rfl)))
  (e_Lok (e_rt (I := eI) (k := 0) ⟨(x_dk dn_259_1_0_ok 24 rfl), rfl⟩)))))))
def te_259 : Nat → eE := (e_T 120 (e_T 57 te_259_0 te_259_31) (e_T 183 te_259_62 te_259_93))
theorem te_259_ok : ∀ pc, e_EOq eft cls elay eI n_259 pc (te_259 pc) := (e_Tok2 ((e_Tok2 (te_259_0_ok) (te_259_31_ok))) ((e_Tok2 (te_259_62_ok) (te_259_93_ok))))
theorem ho_260 : (xm_y n_260).cls = "RobotCellHouse" := rfl
def dn_260_0_0 : List (Nat × Instr × Nat) := [(0, .aload_n 0, 1), (1, .getfield 27, 3), (4, .iload_n 1, 1), (5, .aaload, 1), (6, .astore_n 2, 1), (7, .aload_n 2, 1), (8, .invokevirtual 498, 3), (11, .aload_n 0, 1), (12, .getfield 42, 3), (15, .getfield 274, 3), (18, .ifCond .eq 67, 3), (21, .aload_n 2, 1), (22, .getfield 286, 3), (25, .ifCond .eq 60, 3), (28, .aload_n 2, 1), (29, .invokevirtual 501, 3), (32, .ifCond .eq 11, 3), (35, .aload_n 0, 1), (36, .getfield 19, 3), (39, .iload_n 1, 1), (40, .invokevirtual 468, 3), (43, .aload_n 2, 1), (44, .getfield 286, 3), (47, .iconst 2, 1), (48, .if_icmp .ne 17, 3)]
set_option maxRecDepth 20000 in
theorem dn_260_0_0_ok : dn_260_0_0.all (fun q => decide (decode (xm_b n_260) q.1 = .ok (q.2.1, q.2.2))) = true := xa_g_ok (by decide +kernel)
def dn_260_0_1 : List (Nat × Instr × Nat) := [(51, .aload_n 2, 1), (52, .invokevirtual 503, 3), (55, .ifCond .eq 10, 3), (58, .aload_n 2, 1), (59, .invokevirtual 506, 3), (62, .goto 23, 3), (65, .aload_n 2, 1), (66, .getfield 286, 3), (69, .iconst 1, 1), (70, .if_icmp .ne 15, 3), (73, .aload_n 2, 1), (74, .invokevirtual 509, 3), (77, .ifCond .eq 8, 3), (80, .aload_n 0, 1), (81, .iload_n 1, 1), (82, .invokevirtual 512, 3), (85, .aload_n 0, 1), (86, .getfield 67, 3), (89, .ifCond .eq 23, 3), (92, .aload_n 0, 1), (93, .getfield 64, 3), (96, .iconst 0, 1), (97, .dup2, 1), (98, .iaload, 1), (99, .aload_n 2, 1)]
set_option maxRecDepth 20000 in
theorem dn_260_0_1_ok : dn_260_0_1.all (fun q => decide (decode (xm_b n_260) q.1 = .ok (q.2.1, q.2.2))) = true := xa_g_ok (by decide +kernel)
def dn_260_0_2 : List (Nat × Instr × Nat) := [(100, .aload_n 0, 1), (101, .getfield 42, 3), (104, .getfield 274, 3), (107, .invokevirtual 515, 3), (110, .iadd, 1), (111, .iastore, 1), (112, .return_, 1)]
set_option maxRecDepth 20000 in
theorem dn_260_0_2_ok : dn_260_0_2.all (fun q => decide (decode (xm_b n_260) q.1 = .ok (q.2.1, q.2.2))) = true := xa_g_ok (by decide +kernel)
def te_260_0 : Nat → eE := (e_T 25 (e_T 8 (e_T 4 (e_T 0 (e_L 0 (0, ei_load 0 2 1, 0, 0)) (e_T 1 (e_L 1 (0, ei_getf eft elay 11 2 4, 0, 0)) (e_L 4 (0, ei_load 1 0 5, 0, 0)))) (e_T 6 (e_T 5 (e_L 5 (0, ei_aald elay 6, 0, 0)) (e_L 6 (0, ei_stor 2 2 7, 0, 0))) (e_T 7 (e_L 7 (0, ei_load 2 2 8, 0, 0)) (e_L 8 (2, e_nof, 12, 1))))) (e_T 15 (e_T 11 (e_L 11 (0, ei_load 0 2 12, 0, 0)) (e_T 12 (e_L 12 (0, ei_getf eft elay 11 5 15, 0, 0)) (e_L 15 (0, ei_getf eft elay 2 3 18, 0, 0)))) (e_T 21 (e_T 18 (e_L 18 (0, ei_if1 0 85 21, 0, 0)) (e_L 21 (0, ei_load 2 2 22, 0, 0))) (e_T 22 (e_L 22 (0, ei_getf eft elay 0 11 25, 0, 0)) (e_L 25 (0, ei_if1 0 85 28, 0, 0)))))) (e_T 40 (e_T 32 (e_T 28 (e_L 28 (0, ei_load 2 2 29, 0, 0)) (e_T 29 (e_L 29 (2, e_nof, 14, 1)) (e_L 32 (0, ei_if1 0 43 35, 0, 0)))) (e_T 36 (e_T 35 (e_L 35 (0, ei_load 0 2 36, 0, 0)) (e_L 36 (0, ei_getf eft elay 11 1 39, 0, 0))) (e_T 39 (e_L 39 (0, ei_load 1 0 40, 0, 0)) (e_L 40 (2, e_nof, 39, 2))))) (e_T 47 (e_T 43 (e_L 43 (0, ei_load 2 2 44, 0, 0)) (e_T 44 (e_L 44 (0, ei_getf eft elay 0 11 47, 0, 0)) (e_L 47 (0, ei_push (0, 2) 48, 0, 0)))) (e_T 51 (e_T 48 (e_L 48 (0, ei_if2 1 65 51, 0, 0)) (e_L 51 (0, ei_load 2 2 52, 0, 0))) (e_T 52 (e_L 52 (2, e_nof, 15, 1)) (e_L 55 (0, ei_if1 0 65 58, 0, 0)))))))
set_option maxRecDepth 20000 in
set_option maxHeartbeats 4000000 in
theorem te_260_0_ok : ∀ pc, e_EOq eft cls elay eI n_260 pc (te_260_0 pc) :=
  (e_Tok2
  (e_Tok2
  (e_Tok2
  (e_Tok2
  (e_Lok (ld_aload_n_0 (x_dk dn_260_0_0_ok 0 rfl)))
  (e_Tok2
  (e_Lok (lk_11_27g ho_260 (x_dk dn_260_0_0_ok 1 rfl)))
  (e_Lok (ld_iload_n_1 (x_dk dn_260_0_0_ok 2 rfl)))))
  (e_Tok2
  (e_Tok2
  (e_Lok (e_st (I := eI) (er_aaload (x_dk dn_260_0_0_ok 3 rfl)) nx_aald))
  (e_Lok (e_st (I := eI) (er_astore_n (i := 2) (x_dk dn_260_0_0_ok 4 rfl) (by decide +kernel)) nx_stor)))
  (e_Tok2
  (e_Lok (ld_aload_n_2 (x_dk dn_260_0_0_ok 5 rfl)))
  (e_Lok (lk_11_498 ho_260 (x_dk dn_260_0_0_ok 6 rfl))))))
  (e_Tok2
  (e_Tok2
  (e_Lok (ld_aload_n_0 (x_dk dn_260_0_0_ok 7 rfl)))
  (e_Tok2
  (e_Lok (lk_11_42g ho_260 (x_dk dn_260_0_0_ok 8 rfl)))
  (e_Lok (lk_11_274g ho_260 (x_dk dn_260_0_0_ok 9 rfl)))))
  (e_Tok2
  (e_Tok2
  (e_Lok (e_st (I := eI) (er_ifeq (off := 67) (tg := 85) (x_dk dn_260_0_0_ok 10 rfl) (by decide)) nx_if1))
  (e_Lok (ld_aload_n_2 (x_dk dn_260_0_0_ok 11 rfl))))
  (e_Tok2
  (e_Lok (lk_11_286g ho_260 (x_dk dn_260_0_0_ok 12 rfl)))
  (e_Lok (e_st (I := eI) (er_ifeq (off := 60) (tg := 85) (x_dk dn_260_0_0_ok 13 rfl) (by decide)) nx_if1))))))
  (e_Tok2
  (e_Tok2
  (e_Tok2
  (e_Lok (ld_aload_n_2 (x_dk dn_260_0_0_ok 14 rfl)))
  (e_Tok2
  (e_Lok (lk_11_501 ho_260 (x_dk dn_260_0_0_ok 15 rfl)))
  (e_Lok (e_st (I := eI) (er_ifeq (off := 11) (tg := 43) (x_dk dn_260_0_0_ok 16 rfl) (by decide)) nx_if1))))
  (e_Tok2
  (e_Tok2
  (e_Lok (ld_aload_n_0 (x_dk dn_260_0_0_ok 17 rfl)))
  (e_Lok (lk_11_19g ho_260 (x_dk dn_260_0_0_ok 18 rfl))))
  (e_Tok2
  (e_Lok (ld_iload_n_1 (x_dk dn_260_0_0_ok 19 rfl)))
  (e_Lok (lk_11_468 ho_260 (x_dk dn_260_0_0_ok 20 rfl))))))
  (e_Tok2
  (e_Tok2
  (e_Lok (ld_aload_n_2 (x_dk dn_260_0_0_ok 21 rfl)))
  (e_Tok2
  (e_Lok (lk_11_286g ho_260 (x_dk dn_260_0_0_ok 22 rfl)))
  (e_Lok (ps_iconst_2 (x_dk dn_260_0_0_ok 23 rfl)))))
  (e_Tok2
  (e_Tok2
  (e_Lok (e_st (I := eI) (er_icmpne (off := 17) (tg := 65) (x_dk dn_260_0_0_ok 24 rfl) (by decide)) nx_if2))
  (e_Lok (ld_aload_n_2 (x_dk dn_260_0_1_ok 0 rfl))))
  (e_Tok2
  (e_Lok (lk_11_503 ho_260 (x_dk dn_260_0_1_ok 1 rfl)))
  (e_Lok (e_st (I := eI) (er_ifeq (off := 10) (tg := 65) (x_dk dn_260_0_1_ok 2 rfl) (by decide)) nx_if1)))))))
def te_260_28 : Nat → eE := (e_T 85 (e_T 70 (e_T 62 (e_T 58 (e_L 58 (0, ei_load 2 2 59, 0, 0)) (e_T 59 (e_L 59 (2, e_nof, 17, 1)) (e_L 62 (0, ei_goto 85, 0, 0)))) (e_T 66 (e_T 65 (e_L 65 (0, ei_load 2 2 66, 0, 0)) (e_L 66 (0, ei_getf eft elay 0 11 69, 0, 0))) (e_T 69 (e_L 69 (0, ei_push (0, 1) 70, 0, 0)) (e_L 70 (0, ei_if2 1 85 73, 0, 0))))) (e_T 77 (e_T 73 (e_L 73 (0, ei_load 2 2 74, 0, 0)) (e_T 74 (e_L 74 (2, e_nof, 16, 1)) (e_L 77 (0, ei_if1 0 85 80, 0, 0)))) (e_T 81 (e_T 80 (e_L 80 (0, ei_load 0 2 81, 0, 0)) (e_L 81 (0, ei_load 1 0 82, 0, 0))) (e_T 82 (e_L 82 (2, e_nof, 261, 2)) (e_L 85 (0, ei_load 0 2 86, 0, 0)))))) (e_T 98 (e_T 92 (e_T 86 (e_L 86 (0, ei_getf eft elay 11 14 89, 0, 0)) (e_T 89 (e_L 89 (0, ei_if1 0 112 92, 0, 0)) (e_L 92 (0, ei_load 0 2 93, 0, 0)))) (e_T 96 (e_T 93 (e_L 93 (0, ei_getf eft elay 11 10 96, 0, 0)) (e_L 96 (0, ei_push (0, 0) 97, 0, 0))) (e_T 97 (e_L 97 (0, ei_stk ef_dup2 98, 0, 0)) (e_L 98 (0, ei_ald elay false 99, 0, 0))))) (e_T 104 (e_T 100 (e_T 99 (e_L 99 (0, ei_load 2 2 100, 0, 0)) (e_L 100 (0, ei_load 0 2 101, 0, 0))) (e_T 101 (e_L 101 (0, ei_getf eft elay 11 5 104, 0, 0)) (e_L 104 (0, ei_getf eft elay 2 3 107, 0, 0)))) (e_T 110 (e_T 107 (e_L 107 (2, e_nof, 19, 2)) (e_L 110 (0, ei_bin eF_add 111, 0, 0))) (e_T 111 (e_L 111 (0, ei_ast elay false 112, 0, 0)) (e_L 112 (1, e_nof, 0, 0)))))))
set_option maxRecDepth 20000 in
set_option maxHeartbeats 4000000 in
theorem te_260_28_ok : ∀ pc, e_EOq eft cls elay eI n_260 pc (te_260_28 pc) :=
  (e_Tok2
  (e_Tok2
  (e_Tok2
  (e_Tok2
  (e_Lok (ld_aload_n_2 (x_dk dn_260_0_1_ok 3 rfl)))
  (e_Tok2
  (e_Lok (lk_11_506 ho_260 (x_dk dn_260_0_1_ok 4 rfl)))
  (e_Lok (e_st (I := eI) (er_goto (off := 23) (tg := 85) (x_dk dn_260_0_1_ok 5 rfl) (by decide)) nx_goto))))
  (e_Tok2
  (e_Tok2
  (e_Lok (ld_aload_n_2 (x_dk dn_260_0_1_ok 6 rfl)))
  (e_Lok (lk_11_286g ho_260 (x_dk dn_260_0_1_ok 7 rfl))))
  (e_Tok2
  (e_Lok (ps_iconst_1 (x_dk dn_260_0_1_ok 8 rfl)))
  (e_Lok (e_st (I := eI) (er_icmpne (off := 15) (tg := 85) (x_dk dn_260_0_1_ok 9 rfl) (by decide)) nx_if2)))))
  (e_Tok2
  (e_Tok2
  (e_Lok (ld_aload_n_2 (x_dk dn_260_0_1_ok 10 rfl)))
  (e_Tok2
  (e_Lok (lk_11_509 ho_260 (x_dk dn_260_0_1_ok 11 rfl)))
  (e_Lok (e_st (I := eI) (er_ifeq (off := 8) (tg := 85) (x_dk dn_260_0_1_ok 12 rfl) (by decide)) nx_if1))))
  (e_Tok2
  (e_Tok2
  (e_Lok (ld_aload_n_0 (x_dk dn_260_0_1_ok 13 rfl)))
  (e_Lok (ld_iload_n_1 (x_dk dn_260_0_1_ok 14 rfl))))
  (e_Tok2
  (e_Lok (lk_11_512 ho_260 (x_dk dn_260_0_1_ok 15 rfl)))
  (e_Lok (ld_aload_n_0 (x_dk dn_260_0_1_ok 16 rfl)))))))
  (e_Tok2
  (e_Tok2
  (e_Tok2
  (e_Lok (lk_11_67g ho_260 (x_dk dn_260_0_1_ok 17 rfl)))
  (e_Tok2
  (e_Lok (e_st (I := eI) (er_ifeq (off := 23) (tg := 112) (x_dk dn_260_0_1_ok 18 rfl) (by decide)) nx_if1))
  (e_Lok (ld_aload_n_0 (x_dk dn_260_0_1_ok 19 rfl)))))
  (e_Tok2
  (e_Tok2
  (e_Lok (lk_11_64g ho_260 (x_dk dn_260_0_1_ok 20 rfl)))
  (e_Lok (ps_iconst_0 (x_dk dn_260_0_1_ok 21 rfl))))
  (e_Tok2
  (e_Lok (e_st (I := eI) (er_dup2 (x_dk dn_260_0_1_ok 22 rfl)) (nx_stk bf_dup2)))
  (e_Lok (sm_iaload (x_dk dn_260_0_1_ok 23 rfl))))))
  (e_Tok2
  (e_Tok2
  (e_Tok2
  (e_Lok (ld_aload_n_2 (x_dk dn_260_0_1_ok 24 rfl)))
  (e_Lok (ld_aload_n_0 (x_dk dn_260_0_2_ok 0 rfl))))
  (e_Tok2
  (e_Lok (lk_11_42g ho_260 (x_dk dn_260_0_2_ok 1 rfl)))
  (e_Lok (lk_11_274g ho_260 (x_dk dn_260_0_2_ok 2 rfl)))))
  (e_Tok2
  (e_Tok2
  (e_Lok (lk_11_515 ho_260 (x_dk dn_260_0_2_ok 3 rfl)))
  (e_Lok (sm_iadd (x_dk dn_260_0_2_ok 4 rfl))))
  (e_Tok2
  (e_Lok (sm_iastore (x_dk dn_260_0_2_ok 5 rfl)))
  (e_Lok (e_rt (I := eI) (k := 0) ⟨(x_dk dn_260_0_2_ok 6 rfl), rfl⟩)))))))
def te_260 : Nat → eE := (e_T 55 te_260_0 te_260_28)
theorem te_260_ok : ∀ pc, e_EOq eft cls elay eI n_260 pc (te_260 pc) := (e_Tok2 (te_260_0_ok) (te_260_28_ok))
theorem ho_261 : (xm_y n_261).cls = "RobotCellHouse" := rfl
def dn_261_0_0 : List (Nat × Instr × Nat) := [(0, .aload_n 0, 1), (1, .getfield 27, 3), (4, .iload_n 1, 1), (5, .aaload, 1), (6, .astore_n 2, 1), (7, .aload_n 0, 1), (8, .getfield 42, 3), (11, .bipush 8, 2), (13, .iload_n 1, 1), (14, .aload_n 2, 1), (15, .getfield 519, 3), (18, .invokevirtual 522, 3), (21, .aload_n 0, 1), (22, .getfield 67, 3), (25, .ifCond .eq 26, 3), (28, .aload_n 2, 1), (29, .getfield 519, 3), (32, .aload_n 2, 1), (33, .invokevirtual 526, 3), (36, .iconst 1, 1), (37, .iadd, 1), (38, .if_icmp .eq 13, 3), (41, .aload_n 0, 1), (42, .getfield 64, 3), (45, .iconst 1, 1)]
set_option maxRecDepth 20000 in
theorem dn_261_0_0_ok : dn_261_0_0.all (fun q => decide (decode (xm_b n_261) q.1 = .ok (q.2.1, q.2.2))) = true := xa_g_ok (by decide +kernel)
def dn_261_0_1 : List (Nat × Instr × Nat) := [(46, .dup2, 1), (47, .iaload, 1), (48, .iconst 1, 1), (49, .iadd, 1), (50, .iastore, 1), (51, .aload_n 0, 1), (52, .getfield 53, 3), (55, .aload_n 2, 1), (56, .invokevirtual 529, 3), (59, .ifCond .ne 7, 3), (62, .aload_n 2, 1), (63, .invokevirtual 506, 3), (66, .return_, 1)]
set_option maxRecDepth 20000 in
theorem dn_261_0_1_ok : dn_261_0_1.all (fun q => decide (decode (xm_b n_261) q.1 = .ok (q.2.1, q.2.2))) = true := xa_g_ok (by decide +kernel)
def te_261_0 : Nat → eE := (e_T 33 (e_T 13 (e_T 5 (e_T 1 (e_T 0 (e_L 0 (0, ei_load 0 2 1, 0, 0)) (e_L 1 (0, ei_getf eft elay 11 2 4, 0, 0))) (e_T 4 (e_L 4 (0, ei_load 1 0 5, 0, 0)) (e_L 5 (0, ei_aald elay 6, 0, 0)))) (e_T 7 (e_T 6 (e_L 6 (0, ei_stor 2 2 7, 0, 0)) (e_L 7 (0, ei_load 0 2 8, 0, 0))) (e_T 8 (e_L 8 (0, ei_getf eft elay 11 5 11, 0, 0)) (e_T 11 (e_L 11 (0, ei_push (0, 8) 13, 0, 0)) (e_L 13 (0, ei_load 1 0 14, 0, 0)))))) (e_T 22 (e_T 15 (e_T 14 (e_L 14 (0, ei_load 2 2 15, 0, 0)) (e_L 15 (0, ei_getf eft elay 0 12 18, 0, 0))) (e_T 18 (e_L 18 (2, e_nof, 27, 4)) (e_T 21 (e_L 21 (0, ei_load 0 2 22, 0, 0)) (e_L 22 (0, ei_getf eft elay 11 14 25, 0, 0))))) (e_T 28 (e_T 25 (e_L 25 (0, ei_if1 0 51 28, 0, 0)) (e_L 28 (0, ei_load 2 2 29, 0, 0))) (e_T 29 (e_L 29 (0, ei_getf eft elay 0 12 32, 0, 0)) (e_T 32 (e_L 32 (0, ei_load 2 2 33, 0, 0)) (e_L 33 (2, e_nof, 18, 1))))))) (e_T 48 (e_T 41 (e_T 37 (e_T 36 (e_L 36 (0, ei_push (0, 1) 37, 0, 0)) (e_L 37 (0, ei_bin eF_add 38, 0, 0))) (e_T 38 (e_L 38 (0, ei_if2 0 51 41, 0, 0)) (e_L 41 (0, ei_load 0 2 42, 0, 0)))) (e_T 45 (e_T 42 (e_L 42 (0, ei_getf eft elay 11 10 45, 0, 0)) (e_L 45 (0, ei_push (0, 1) 46, 0, 0))) (e_T 46 (e_L 46 (0, ei_stk ef_dup2 47, 0, 0)) (e_T 47 (e_L 47 (0, ei_ald elay false 48, 0, 0)) (e_L 48 (0, ei_push (0, 1) 49, 0, 0)))))) (e_T 55 (e_T 50 (e_T 49 (e_L 49 (0, ei_bin eF_add 50, 0, 0)) (e_L 50 (0, ei_ast elay false 51, 0, 0))) (e_T 51 (e_L 51 (0, ei_load 0 2 52, 0, 0)) (e_T 52 (e_L 52 (0, ei_getf eft elay 11 7 55, 0, 0)) (e_L 55 (0, ei_load 2 2 56, 0, 0))))) (e_T 59 (e_T 56 (e_L 56 (2, e_nof, 108, 2)) (e_L 59 (0, ei_if1 1 66 62, 0, 0))) (e_T 62 (e_L 62 (0, ei_load 2 2 63, 0, 0)) (e_T 63 (e_L 63 (2, e_nof, 17, 1)) (e_L 66 (1, e_nof, 0, 0))))))))
set_option maxRecDepth 20000 in
set_option maxHeartbeats 4000000 in
theorem te_261_0_ok : ∀ pc, e_EOq eft cls elay eI n_261 pc (te_261_0 pc) :=
  (e_Tok2
  (e_Tok2
  (e_Tok2
  (e_Tok2
  (e_Tok2
  (e_Lok (ld_aload_n_0 (x_dk dn_261_0_0_ok 0 rfl)))
  (e_Lok (lk_11_27g ho_261 (x_dk dn_261_0_0_ok 1 rfl))))
  (e_Tok2
  (e_Lok (ld_iload_n_1 (x_dk dn_261_0_0_ok 2 rfl)))
  (e_Lok (e_st (I := eI) (er_aaload (x_dk dn_261_0_0_ok 3 rfl)) nx_aald))))
  (e_Tok2
  (e_Tok2
  (e_Lok (e_st (I := eI) (er_astore_n (i := 2) (x_dk dn_261_0_0_ok 4 rfl) (by decide +kernel)) nx_stor))
  (e_Lok (ld_aload_n_0 (x_dk dn_261_0_0_ok 5 rfl))))
  (e_Tok2
  (e_Lok (lk_11_42g ho_261 (x_dk dn_261_0_0_ok 6 rfl)))
  (e_Tok2
  (e_Lok (ps_bipush_8 (x_dk dn_261_0_0_ok 7 rfl)))
  (e_Lok (ld_iload_n_1 (x_dk dn_261_0_0_ok 8 rfl)))))))
  (e_Tok2
  (e_Tok2
  (e_Tok2
  (e_Lok (ld_aload_n_2 (x_dk dn_261_0_0_ok 9 rfl)))
  (e_Lok (lk_11_519g ho_261 (x_dk dn_261_0_0_ok 10 rfl))))
  (e_Tok2
  (e_Lok (lk_11_522 ho_261 (x_dk dn_261_0_0_ok 11 rfl)))
  (e_Tok2
  (e_Lok (ld_aload_n_0 (x_dk dn_261_0_0_ok 12 rfl)))
  (e_Lok (lk_11_67g ho_261 (x_dk dn_261_0_0_ok 13 rfl))))))
  (e_Tok2
  (e_Tok2
  (e_Lok (e_st (I := eI) (er_ifeq (off := 26) (tg := 51) (x_dk dn_261_0_0_ok 14 rfl) (by decide)) nx_if1))
  (e_Lok (ld_aload_n_2 (x_dk dn_261_0_0_ok 15 rfl))))
  (e_Tok2
  (e_Lok (lk_11_519g ho_261 (x_dk dn_261_0_0_ok 16 rfl)))
  (e_Tok2
  (e_Lok (ld_aload_n_2 (x_dk dn_261_0_0_ok 17 rfl)))
  (e_Lok (lk_11_526 ho_261 (x_dk dn_261_0_0_ok 18 rfl))))))))
  (e_Tok2
  (e_Tok2
  (e_Tok2
  (e_Tok2
  (e_Lok (ps_iconst_1 (x_dk dn_261_0_0_ok 19 rfl)))
  (e_Lok (sm_iadd (x_dk dn_261_0_0_ok 20 rfl))))
  (e_Tok2
  (e_Lok (e_st (I := eI) (er_icmpeq (off := 13) (tg := 51) (x_dk dn_261_0_0_ok 21 rfl) (by decide)) nx_if2))
  (e_Lok (ld_aload_n_0 (x_dk dn_261_0_0_ok 22 rfl)))))
  (e_Tok2
  (e_Tok2
  (e_Lok (lk_11_64g ho_261 (x_dk dn_261_0_0_ok 23 rfl)))
  (e_Lok (ps_iconst_1 (x_dk dn_261_0_0_ok 24 rfl))))
  (e_Tok2
  (e_Lok (e_st (I := eI) (er_dup2 (x_dk dn_261_0_1_ok 0 rfl)) (nx_stk bf_dup2)))
  (e_Tok2
  (e_Lok (sm_iaload (x_dk dn_261_0_1_ok 1 rfl)))
  (e_Lok (ps_iconst_1 (x_dk dn_261_0_1_ok 2 rfl)))))))
  (e_Tok2
  (e_Tok2
  (e_Tok2
  (e_Lok (sm_iadd (x_dk dn_261_0_1_ok 3 rfl)))
  (e_Lok (sm_iastore (x_dk dn_261_0_1_ok 4 rfl))))
  (e_Tok2
  (e_Lok (ld_aload_n_0 (x_dk dn_261_0_1_ok 5 rfl)))
  (e_Tok2
  (e_Lok (lk_11_53g ho_261 (x_dk dn_261_0_1_ok 6 rfl)))
  (e_Lok (ld_aload_n_2 (x_dk dn_261_0_1_ok 7 rfl))))))
  (e_Tok2
  (e_Tok2
  (e_Lok (lk_11_529 ho_261 (x_dk dn_261_0_1_ok 8 rfl)))
  (e_Lok (e_st (I := eI) (er_ifne (off := 7) (tg := 66) (x_dk dn_261_0_1_ok 9 rfl) (by decide)) nx_if1)))
  (e_Tok2
  (e_Lok (ld_aload_n_2 (x_dk dn_261_0_1_ok 10 rfl)))
  (e_Tok2
  (e_Lok (lk_11_506 ho_261 (x_dk dn_261_0_1_ok 11 rfl)))
  (e_Lok (e_rt (I := eI) (k := 0) ⟨(x_dk dn_261_0_1_ok 12 rfl), rfl⟩))))))))
def te_261 : Nat → eE := te_261_0
theorem te_261_ok : ∀ pc, e_EOq eft cls elay eI n_261 pc (te_261 pc) := te_261_0_ok
theorem ho_262 : (xm_y n_262).cls = "RobotCellHouse" := rfl
def dn_262_0_0 : List (Nat × Instr × Nat) := [(0, .aload_n 0, 1), (1, .getfield 42, 3), (4, .getfield 533, 3), (7, .ifCond .eq 7, 3), (10, .iconst (-1), 1), (11, .goto 7, 3), (14, .aload_n 0, 1), (15, .invokevirtual 536, 3), (18, .istore_n 1, 1), (19, .iload_n 1, 1), (20, .ifCond .lt 21, 3), (23, .aload_n 0, 1), (24, .getfield 67, 3), (27, .ifCond .eq 7, 3), (30, .aload_n 0, 1), (31, .invokevirtual 539, 3), (34, .aload_n 0, 1), (35, .iconst 2, 1), (36, .iload_n 1, 1), (37, .invokevirtual 460, 3), (40, .return_, 1), (41, .aload_n 0, 1), (42, .getfield 42, 3), (45, .iconst 1, 1), (46, .putfield 533, 3)]
set_option maxRecDepth 20000 in
theorem dn_262_0_0_ok : dn_262_0_0.all (fun q => decide (decode (xm_b n_262) q.1 = .ok (q.2.1, q.2.2))) = true := xa_g_ok (by decide +kernel)
def dn_262_0_1 : List (Nat × Instr × Nat) := [(49, .aload_n 0, 1), (50, .getfield 46, 3), (53, .aload_n 0, 1), (54, .getfield 27, 3), (57, .invokevirtual 542, 3), (60, .istore_n 2, 1), (61, .iload_n 2, 1), (62, .ifCond .lt 9, 3), (65, .aload_n 0, 1), (66, .iconst 3, 1), (67, .iload_n 2, 1), (68, .invokevirtual 460, 3), (71, .return_, 1)]
set_option maxRecDepth 20000 in
theorem dn_262_0_1_ok : dn_262_0_1.all (fun q => decide (decode (xm_b n_262) q.1 = .ok (q.2.1, q.2.2))) = true := xa_g_ok (by decide +kernel)
def te_262_0 : Nat → eE := (e_T 36 (e_T 18 (e_T 7 (e_T 1 (e_T 0 (e_L 0 (0, ei_load 0 2 1, 0, 0)) (e_L 1 (0, ei_getf eft elay 11 5 4, 0, 0))) (e_T 4 (e_L 4 (0, ei_getf eft elay 2 7 7, 0, 0)) (e_L 7 (0, ei_if1 0 14 10, 0, 0)))) (e_T 11 (e_T 10 (e_L 10 (0, ei_push (0, (-1)) 11, 0, 0)) (e_L 11 (0, ei_goto 18, 0, 0))) (e_T 14 (e_L 14 (0, ei_load 0 2 15, 0, 0)) (e_T 15 (e_L 15 (2, e_nof, 263, 1)) (e_L 18 (0, ei_stor 1 0 19, 0, 0)))))) (e_T 27 (e_T 20 (e_T 19 (e_L 19 (0, ei_load 1 0 20, 0, 0)) (e_L 20 (0, ei_if1 2 41 23, 0, 0))) (e_T 23 (e_L 23 (0, ei_load 0 2 24, 0, 0)) (e_T 24 (e_L 24 (0, ei_getf eft elay 11 14 27, 0, 0)) (e_L 27 (0, ei_if1 0 34 30, 0, 0))))) (e_T 31 (e_T 30 (e_L 30 (0, ei_load 0 2 31, 0, 0)) (e_L 31 (2, e_nof, 264, 1))) (e_T 34 (e_L 34 (0, ei_load 0 2 35, 0, 0)) (e_T 35 (e_L 35 (0, ei_push (0, 2) 36, 0, 0)) (e_L 36 (0, ei_load 1 0 37, 0, 0))))))) (e_T 53 (e_T 42 (e_T 40 (e_T 37 (e_L 37 (2, e_nof, 265, 3)) (e_L 40 (1, e_nof, 0, 0))) (e_T 41 (e_L 41 (0, ei_load 0 2 42, 0, 0)) (e_L 42 (0, ei_getf eft elay 11 5 45, 0, 0)))) (e_T 46 (e_T 45 (e_L 45 (0, ei_push (0, 1) 46, 0, 0)) (e_L 46 (0, ei_putf eft elay 2 7 1 49, 0, 0))) (e_T 49 (e_L 49 (0, ei_load 0 2 50, 0, 0)) (e_T 50 (e_L 50 (0, ei_getf eft elay 11 6 53, 0, 0)) (e_L 53 (0, ei_load 0 2 54, 0, 0)))))) (e_T 62 (e_T 57 (e_T 54 (e_L 54 (0, ei_getf eft elay 11 2 57, 0, 0)) (e_L 57 (2, e_nof, 169, 2))) (e_T 60 (e_L 60 (0, ei_stor 2 0 61, 0, 0)) (e_T 61 (e_L 61 (0, ei_load 2 0 62, 0, 0)) (e_L 62 (0, ei_if1 2 71 65, 0, 0))))) (e_T 66 (e_T 65 (e_L 65 (0, ei_load 0 2 66, 0, 0)) (e_L 66 (0, ei_push (0, 3) 67, 0, 0))) (e_T 67 (e_L 67 (0, ei_load 2 0 68, 0, 0)) (e_T 68 (e_L 68 (2, e_nof, 265, 3)) (e_L 71 (1, e_nof, 0, 0))))))))
set_option maxRecDepth 20000 in
set_option maxHeartbeats 4000000 in
theorem te_262_0_ok : ∀ pc, e_EOq eft cls elay eI n_262 pc (te_262_0 pc) :=
  (e_Tok2
  (e_Tok2
  (e_Tok2
  (e_Tok2
  (e_Tok2
  (e_Lok (ld_aload_n_0 (x_dk dn_262_0_0_ok 0 rfl)))
  (e_Lok (lk_11_42g ho_262 (x_dk dn_262_0_0_ok 1 rfl))))
  (e_Tok2
  (e_Lok (lk_11_533g ho_262 (x_dk dn_262_0_0_ok 2 rfl)))
  (e_Lok (e_st (I := eI) (er_ifeq (off := 7) (tg := 14) (x_dk dn_262_0_0_ok 3 rfl) (by decide)) nx_if1))))
  (e_Tok2
  (e_Tok2
  (e_Lok (ps_iconst_m1 (x_dk dn_262_0_0_ok 4 rfl)))
  (e_Lok (e_st (I := eI) (er_goto (off := 7) (tg := 18) (x_dk dn_262_0_0_ok 5 rfl) (by decide)) nx_goto)))
  (e_Tok2
  (e_Lok (ld_aload_n_0 (x_dk dn_262_0_0_ok 6 rfl)))
  (e_Tok2
  (e_Lok (lk_11_536 ho_262 (x_dk dn_262_0_0_ok 7 rfl)))
  (e_Lok (e_st (I := eI) (er_istore_n (i := 1) (x_dk dn_262_0_0_ok 8 rfl) (by decide +kernel)) nx_stor))))))
  (e_Tok2
  (e_Tok2
  (e_Tok2
  (e_Lok (ld_iload_n_1 (x_dk dn_262_0_0_ok 9 rfl)))
  (e_Lok (e_st (I := eI) (er_iflt (off := 21) (tg := 41) (x_dk dn_262_0_0_ok 10 rfl) (by decide)) nx_if1)))
  (e_Tok2
  (e_Lok (ld_aload_n_0 (x_dk dn_262_0_0_ok 11 rfl)))
  (e_Tok2
  (e_Lok (lk_11_67g ho_262 (x_dk dn_262_0_0_ok 12 rfl)))
  (e_Lok (e_st (I := eI) (er_ifeq (off := 7) (tg := 34) (x_dk dn_262_0_0_ok 13 rfl) (by decide)) nx_if1)))))
  (e_Tok2
  (e_Tok2
  (e_Lok (ld_aload_n_0 (x_dk dn_262_0_0_ok 14 rfl)))
  (e_Lok (lk_11_539 ho_262 (x_dk dn_262_0_0_ok 15 rfl))))
  (e_Tok2
  (e_Lok (ld_aload_n_0 (x_dk dn_262_0_0_ok 16 rfl)))
  (e_Tok2
  (e_Lok (ps_iconst_2 (x_dk dn_262_0_0_ok 17 rfl)))
  (e_Lok (ld_iload_n_1 (x_dk dn_262_0_0_ok 18 rfl))))))))
  (e_Tok2
  (e_Tok2
  (e_Tok2
  (e_Tok2
  (e_Lok (lk_11_460 ho_262 (x_dk dn_262_0_0_ok 19 rfl)))
  (e_Lok (e_rt (I := eI) (k := 0) ⟨(x_dk dn_262_0_0_ok 20 rfl), rfl⟩)))
  (e_Tok2
  (e_Lok (ld_aload_n_0 (x_dk dn_262_0_0_ok 21 rfl)))
  (e_Lok (lk_11_42g ho_262 (x_dk dn_262_0_0_ok 22 rfl)))))
  (e_Tok2
  (e_Tok2
  (e_Lok (ps_iconst_1 (x_dk dn_262_0_0_ok 23 rfl)))
  (e_Lok (lk_11_533p ho_262 (x_dk dn_262_0_0_ok 24 rfl))))
  (e_Tok2
  (e_Lok (ld_aload_n_0 (x_dk dn_262_0_1_ok 0 rfl)))
  (e_Tok2
  (e_Lok (lk_11_46g ho_262 (x_dk dn_262_0_1_ok 1 rfl)))
  (e_Lok (ld_aload_n_0 (x_dk dn_262_0_1_ok 2 rfl)))))))
  (e_Tok2
  (e_Tok2
  (e_Tok2
  (e_Lok (lk_11_27g ho_262 (x_dk dn_262_0_1_ok 3 rfl)))
  (e_Lok (lk_11_542 ho_262 (x_dk dn_262_0_1_ok 4 rfl))))
  (e_Tok2
  (e_Lok (e_st (I := eI) (er_istore_n (i := 2) (x_dk dn_262_0_1_ok 5 rfl) (by decide +kernel)) nx_stor))
  (e_Tok2
  (e_Lok (ld_iload_n_2 (x_dk dn_262_0_1_ok 6 rfl)))
  (e_Lok (e_st (I := eI) (er_iflt (off := 9) (tg := 71) (x_dk dn_262_0_1_ok 7 rfl) (by decide)) nx_if1)))))
  (e_Tok2
  (e_Tok2
  (e_Lok (ld_aload_n_0 (x_dk dn_262_0_1_ok 8 rfl)))
  (e_Lok (ps_iconst_3 (x_dk dn_262_0_1_ok 9 rfl))))
  (e_Tok2
  (e_Lok (ld_iload_n_2 (x_dk dn_262_0_1_ok 10 rfl)))
  (e_Tok2
  (e_Lok (lk_11_460 ho_262 (x_dk dn_262_0_1_ok 11 rfl)))
  (e_Lok (e_rt (I := eI) (k := 0) ⟨(x_dk dn_262_0_1_ok 12 rfl), rfl⟩))))))))
def te_262 : Nat → eE := te_262_0
theorem te_262_ok : ∀ pc, e_EOq eft cls elay eI n_262 pc (te_262 pc) := te_262_0_ok
theorem ho_263 : (xm_y n_263).cls = "RobotCellHouse" := rfl
def dn_263_0_0 : List (Nat × Instr × Nat) := [(0, .iconst 0, 1), (1, .istore_n 1, 1), (2, .iload_n 1, 1), (3, .aload_n 0, 1), (4, .getfield 94, 3), (7, .if_icmp .ge 34, 3), (10, .aload_n 0, 1), (11, .getfield 46, 3), (14, .aload_n 0, 1), (15, .getfield 27, 3), (18, .aload_n 0, 1), (19, .getfield 94, 3), (22, .iload_n 1, 1), (23, .iload_n 1, 1), (24, .iconst 1, 1), (25, .iadd, 1), (26, .iconst 0, 1), (27, .invokevirtual 403, 3), (30, .ifCond .eq 5, 3), (33, .iload_n 1, 1), (34, .ireturn, 1), (35, .iinc 1 1, 3), (38, .goto (-36), 3), (41, .iconst (-1), 1), (42, .ireturn, 1)]
set_option maxRecDepth 20000 in
theorem dn_263_0_0_ok : dn_263_0_0.all (fun q => decide (decode (xm_b n_263) q.1 = .ok (q.2.1, q.2.2))) = true := xa_g_ok (by decide +kernel)
def te_263_0 : Nat → eE := (e_T 19 (e_T 7 (e_T 2 (e_T 0 (e_L 0 (0, ei_push (0, 0) 1, 0, 0)) (e_T 1 (e_L 1 (0, ei_stor 1 0 2, 0, 0)) (e_L 2 (0, ei_load 1 0 3, 0, 0)))) (e_T 3 (e_L 3 (0, ei_load 0 2 4, 0, 0)) (e_T 4 (e_L 4 (0, ei_getf eft elay 11 11 7, 0, 0)) (e_L 7 (0, ei_if2 3 41 10, 0, 0))))) (e_T 14 (e_T 10 (e_L 10 (0, ei_load 0 2 11, 0, 0)) (e_T 11 (e_L 11 (0, ei_getf eft elay 11 6 14, 0, 0)) (e_L 14 (0, ei_load 0 2 15, 0, 0)))) (e_T 15 (e_L 15 (0, ei_getf eft elay 11 2 18, 0, 0)) (e_T 18 (e_L 18 (0, ei_load 0 2 19, 0, 0)) (e_L 19 (0, ei_getf eft elay 11 11 22, 0, 0)))))) (e_T 27 (e_T 24 (e_T 22 (e_L 22 (0, ei_load 1 0 23, 0, 0)) (e_T 23 (e_L 23 (0, ei_load 1 0 24, 0, 0)) (e_L 24 (0, ei_push (0, 1) 25, 0, 0)))) (e_T 25 (e_L 25 (0, ei_bin eF_add 26, 0, 0)) (e_T 26 (e_L 26 (0, ei_push (0, 0) 27, 0, 0)) (e_L 27 (2, e_nof, 171, 6))))) (e_T 34 (e_T 30 (e_L 30 (0, ei_if1 0 35 33, 0, 0)) (e_T 33 (e_L 33 (0, ei_load 1 0 34, 0, 0)) (e_L 34 (1, e_nof, 1, 0)))) (e_T 38 (e_T 35 (e_L 35 (0, ei_inc 1 1 38, 0, 0)) (e_L 38 (0, ei_goto 2, 0, 0))) (e_T 41 (e_L 41 (0, ei_push (0, (-1)) 42, 0, 0)) (e_L 42 (1, e_nof, 1, 0)))))))
set_option maxRecDepth 20000 in
set_option maxHeartbeats 4000000 in
theorem te_263_0_ok : ∀ pc, e_EOq eft cls elay eI n_263 pc (te_263_0 pc) :=
  (e_Tok2
  (e_Tok2
  (e_Tok2
  (e_Tok2
  (e_Lok (ps_iconst_0 (x_dk dn_263_0_0_ok 0 rfl)))
  (e_Tok2
  (e_Lok (e_st (I := eI) (er_istore_n (i := 1) (x_dk dn_263_0_0_ok 1 rfl) (by decide +kernel)) nx_stor))
  (e_Lok (ld_iload_n_1 (x_dk dn_263_0_0_ok 2 rfl)))))
  (e_Tok2
  (e_Lok (ld_aload_n_0 (x_dk dn_263_0_0_ok 3 rfl)))
  (e_Tok2
  (e_Lok (lk_11_94g ho_263 (x_dk dn_263_0_0_ok 4 rfl)))
  (e_Lok (e_st (I := eI) (er_icmpge (off := 34) (tg := 41) (x_dk dn_263_0_0_ok 5 rfl) (by decide)) nx_if2)))))
  (e_Tok2
  (e_Tok2
  (e_Lok (ld_aload_n_0 (x_dk dn_263_0_0_ok 6 rfl)))
  (e_Tok2
  (e_Lok (lk_11_46g ho_263 (x_dk dn_263_0_0_ok 7 rfl)))
  (e_Lok (ld_aload_n_0 (x_dk dn_263_0_0_ok 8 rfl)))))
  (e_Tok2
  (e_Lok (lk_11_27g ho_263 (x_dk dn_263_0_0_ok 9 rfl)))
  (e_Tok2
  (e_Lok (ld_aload_n_0 (x_dk dn_263_0_0_ok 10 rfl)))
  (e_Lok (lk_11_94g ho_263 (x_dk dn_263_0_0_ok 11 rfl)))))))
  (e_Tok2
  (e_Tok2
  (e_Tok2
  (e_Lok (ld_iload_n_1 (x_dk dn_263_0_0_ok 12 rfl)))
  (e_Tok2
  (e_Lok (ld_iload_n_1 (x_dk dn_263_0_0_ok 13 rfl)))
  (e_Lok (ps_iconst_1 (x_dk dn_263_0_0_ok 14 rfl)))))
  (e_Tok2
  (e_Lok (sm_iadd (x_dk dn_263_0_0_ok 15 rfl)))
  (e_Tok2
  (e_Lok (ps_iconst_0 (x_dk dn_263_0_0_ok 16 rfl)))
  (e_Lok (lk_11_403 ho_263 (x_dk dn_263_0_0_ok 17 rfl))))))
  (e_Tok2
  (e_Tok2
  (e_Lok (e_st (I := eI) (er_ifeq (off := 5) (tg := 35) (x_dk dn_263_0_0_ok 18 rfl) (by decide)) nx_if1))
  (e_Tok2
  (e_Lok (ld_iload_n_1 (x_dk dn_263_0_0_ok 19 rfl)))
  (e_Lok (e_rt (I := eI) (k := 1) ⟨(x_dk dn_263_0_0_ok 20 rfl), rfl⟩))))
  (e_Tok2
  (e_Tok2
  (e_Lok (e_st (I := eI) (er_iinc (i := 1) (n := 1) (x_dk dn_263_0_0_ok 21 rfl) (by decide +kernel) (by decide)) nx_inc))
  (e_Lok (e_st (I := eI) (er_goto (off := (-36)) (tg := 2) (x_dk dn_263_0_0_ok 22 rfl) (by decide)) nx_goto)))
  (e_Tok2
  (e_Lok (ps_iconst_m1 (x_dk dn_263_0_0_ok 23 rfl)))
  (e_Lok (e_rt (I := eI) (k := 1) ⟨(x_dk dn_263_0_0_ok 24 rfl), rfl⟩)))))))
def te_263 : Nat → eE := te_263_0
theorem te_263_ok : ∀ pc, e_EOq eft cls elay eI n_263 pc (te_263 pc) := te_263_0_ok
theorem ho_264 : (xm_y n_264).cls = "RobotCellHouse" := rfl
def dn_264_0_0 : List (Nat × Instr × Nat) := [(0, .iconst 0, 1), (1, .istore_n 1, 1), (2, .iload_n 1, 1), (3, .aload_n 0, 1), (4, .getfield 94, 3), (7, .if_icmp .ge 76, 3), (10, .aload_n 0, 1), (11, .getfield 27, 3), (14, .iload_n 1, 1), (15, .aaload, 1), (16, .getfield 323, 3), (19, .ifCond .lt 21, 3), (22, .aload_n 0, 1), (23, .getfield 27, 3), (26, .iload_n 1, 1), (27, .aaload, 1), (28, .getfield 546, 3), (31, .iconst 2, 1), (32, .iand, 1), (33, .ifCond .ne 7, 3), (36, .iconst 1, 1), (37, .goto 4, 3), (40, .iconst 0, 1), (41, .istore_n 2, 1), (42, .iload_n 2, 1)]
set_option maxRecDepth 20000 in
theorem dn_264_0_0_ok : dn_264_0_0.all (fun q => decide (decode (xm_b n_264) q.1 = .ok (q.2.1, q.2.2))) = true := xa_g_ok (by decide +kernel)
def dn_264_0_1 : List (Nat × Instr × Nat) := [(43, .ifCond .eq 34, 3), (46, .aload_n 0, 1), (47, .getfield 46, 3), (50, .aload_n 0, 1), (51, .getfield 27, 3), (54, .aload_n 0, 1), (55, .getfield 94, 3), (58, .iload_n 1, 1), (59, .iconst 0, 1), (60, .iconst 0, 1), (61, .invokevirtual 403, 3), (64, .ifCond .eq 13, 3), (67, .aload_n 0, 1), (68, .getfield 64, 3), (71, .iconst 2, 1), (72, .dup2, 1), (73, .iaload, 1), (74, .iconst 1, 1), (75, .iadd, 1), (76, .iastore, 1), (77, .iinc 1 1, 3), (80, .goto (-78), 3), (83, .return_, 1)]
set_option maxRecDepth 20000 in
theorem dn_264_0_1_ok : dn_264_0_1.all (fun q => decide (decode (xm_b n_264) q.1 = .ok (q.2.1, q.2.2))) = true := xa_g_ok (by decide +kernel)
def te_264_0 : Nat → eE := (e_T 19 (e_T 7 (e_T 2 (e_T 0 (e_L 0 (0, ei_push (0, 0) 1, 0, 0)) (e_T 1 (e_L 1 (0, ei_stor 1 0 2, 0, 0)) (e_L 2 (0, ei_load 1 0 3, 0, 0)))) (e_T 3 (e_L 3 (0, ei_load 0 2 4, 0, 0)) (e_T 4 (e_L 4 (0, ei_getf eft elay 11 11 7, 0, 0)) (e_L 7 (0, ei_if2 3 83 10, 0, 0))))) (e_T 14 (e_T 10 (e_L 10 (0, ei_load 0 2 11, 0, 0)) (e_T 11 (e_L 11 (0, ei_getf eft elay 11 2 14, 0, 0)) (e_L 14 (0, ei_load 1 0 15, 0, 0)))) (e_T 15 (e_L 15 (0, ei_aald elay 16, 0, 0)) (e_T 16 (e_L 16 (0, ei_getf eft elay 0 18 19, 0, 0)) (e_L 19 (0, ei_if1 2 40 22, 0, 0)))))) (e_T 31 (e_T 26 (e_T 22 (e_L 22 (0, ei_load 0 2 23, 0, 0)) (e_T 23 (e_L 23 (0, ei_getf eft elay 11 2 26, 0, 0)) (e_L 26 (0, ei_load 1 0 27, 0, 0)))) (e_T 27 (e_L 27 (0, ei_aald elay 28, 0, 0)) (e_T 28 (e_L 28 (0, ei_getf eft elay 0 19 31, 0, 0)) (e_L 31 (0, ei_push (0, 2) 32, 0, 0))))) (e_T 36 (e_T 32 (e_L 32 (0, ei_bin (eB (fun x y => x &&& y)) 33, 0, 0)) (e_T 33 (e_L 33 (0, ei_if1 1 40 36, 0, 0)) (e_L 36 (0, ei_push (0, 1) 37, 0, 0)))) (e_T 37 (e_L 37 (0, ei_goto 41, 0, 0)) (e_T 40 (e_L 40 (0, ei_push (0, 0) 41, 0, 0)) (e_L 41 (0, ei_stor 2 0 42, 0, 0)))))))
set_option maxRecDepth 20000 in
set_option maxHeartbeats 4000000 in
theorem te_264_0_ok : ∀ pc, e_EOq eft cls elay eI n_264 pc (te_264_0 pc) :=
  (e_Tok2
  (e_Tok2
  (e_Tok2
  (e_Tok2
  (e_Lok (ps_iconst_0 (x_dk dn_264_0_0_ok 0 rfl)))
  (e_Tok2
  (e_Lok (e_st (I := eI) (er_istore_n (i := 1) (x_dk dn_264_0_0_ok 1 rfl) (by decide +kernel)) nx_stor))
  (e_Lok (ld_iload_n_1 (x_dk dn_264_0_0_ok 2 rfl)))))
  (e_Tok2
  (e_Lok (ld_aload_n_0 (x_dk dn_264_0_0_ok 3 rfl)))
  (e_Tok2
  (e_Lok (lk_11_94g ho_264 (x_dk dn_264_0_0_ok 4 rfl)))
  (e_Lok (e_st (I := eI) (er_icmpge (off := 76) (tg := 83) (x_dk dn_264_0_0_ok 5 rfl) (by decide)) nx_if2)))))
  (e_Tok2
  (e_Tok2
  (e_Lok (ld_aload_n_0 (x_dk dn_264_0_0_ok 6 rfl)))
  (e_Tok2
  (e_Lok (lk_11_27g ho_264 (x_dk dn_264_0_0_ok 7 rfl)))
  (e_Lok (ld_iload_n_1 (x_dk dn_264_0_0_ok 8 rfl)))))
  (e_Tok2
  (e_Lok (e_st (I := eI) (er_aaload (x_dk dn_264_0_0_ok 9 rfl)) nx_aald))
  (e_Tok2
  (e_Lok (lk_11_323g ho_264 (x_dk dn_264_0_0_ok 10 rfl)))
  (e_Lok (e_st (I := eI) (er_iflt (off := 21) (tg := 40) (x_dk dn_264_0_0_ok 11 rfl) (by decide)) nx_if1))))))
  (e_Tok2
  (e_Tok2
  (e_Tok2
  (e_Lok (ld_aload_n_0 (x_dk dn_264_0_0_ok 12 rfl)))
  (e_Tok2
  (e_Lok (lk_11_27g ho_264 (x_dk dn_264_0_0_ok 13 rfl)))
  (e_Lok (ld_iload_n_1 (x_dk dn_264_0_0_ok 14 rfl)))))
  (e_Tok2
  (e_Lok (e_st (I := eI) (er_aaload (x_dk dn_264_0_0_ok 15 rfl)) nx_aald))
  (e_Tok2
  (e_Lok (lk_11_546g ho_264 (x_dk dn_264_0_0_ok 16 rfl)))
  (e_Lok (ps_iconst_2 (x_dk dn_264_0_0_ok 17 rfl))))))
  (e_Tok2
  (e_Tok2
  (e_Lok (e_st (I := eI) (er_iand (x_dk dn_264_0_0_ok 18 rfl)) nx_bin))
  (e_Tok2
  (e_Lok (e_st (I := eI) (er_ifne (off := 7) (tg := 40) (x_dk dn_264_0_0_ok 19 rfl) (by decide)) nx_if1))
  (e_Lok (ps_iconst_1 (x_dk dn_264_0_0_ok 20 rfl)))))
  (e_Tok2
  (e_Lok (e_st (I := eI) (er_goto (off := 4) (tg := 41) (x_dk dn_264_0_0_ok 21 rfl) (by decide)) nx_goto))
  (e_Tok2
  (e_Lok (ps_iconst_0 (x_dk dn_264_0_0_ok 22 rfl)))
  (e_Lok (e_st (I := eI) (er_istore_n (i := 2) (x_dk dn_264_0_0_ok 23 rfl) (by decide +kernel)) nx_stor)))))))
def te_264_24 : Nat → eE := (e_T 61 (e_T 51 (e_T 46 (e_T 42 (e_L 42 (0, ei_load 2 0 43, 0, 0)) (e_T 43 (e_L 43 (0, ei_if1 0 77 46, 0, 0)) (e_L 46 (0, ei_load 0 2 47, 0, 0)))) (e_T 47 (e_L 47 (0, ei_getf eft elay 11 6 50, 0, 0)) (e_T 50 (e_L 50 (0, ei_load 0 2 51, 0, 0)) (e_L 51 (0, ei_getf eft elay 11 2 54, 0, 0))))) (e_T 58 (e_T 54 (e_L 54 (0, ei_load 0 2 55, 0, 0)) (e_T 55 (e_L 55 (0, ei_getf eft elay 11 11 58, 0, 0)) (e_L 58 (0, ei_load 1 0 59, 0, 0)))) (e_T 59 (e_L 59 (0, ei_push (0, 0) 60, 0, 0)) (e_T 60 (e_L 60 (0, ei_push (0, 0) 61, 0, 0)) (e_L 61 (2, e_nof, 171, 6)))))) (e_T 73 (e_T 68 (e_T 64 (e_L 64 (0, ei_if1 0 77 67, 0, 0)) (e_T 67 (e_L 67 (0, ei_load 0 2 68, 0, 0)) (e_L 68 (0, ei_getf eft elay 11 10 71, 0, 0)))) (e_T 71 (e_L 71 (0, ei_push (0, 2) 72, 0, 0)) (e_T 72 (e_L 72 (0, ei_stk ef_dup2 73, 0, 0)) (e_L 73 (0, ei_ald elay false 74, 0, 0))))) (e_T 76 (e_T 74 (e_L 74 (0, ei_push (0, 1) 75, 0, 0)) (e_T 75 (e_L 75 (0, ei_bin eF_add 76, 0, 0)) (e_L 76 (0, ei_ast elay false 77, 0, 0)))) (e_T 77 (e_L 77 (0, ei_inc 1 1 80, 0, 0)) (e_T 80 (e_L 80 (0, ei_goto 2, 0, 0)) (e_L 83 (1, e_nof, 0, 0)))))))
set_option maxRecDepth 20000 in
set_option maxHeartbeats 4000000 in
theorem te_264_24_ok : ∀ pc, e_EOq eft cls elay eI n_264 pc (te_264_24 pc) :=
  (e_Tok2
  (e_Tok2
  (e_Tok2
  (e_Tok2
  (e_Lok (ld_iload_n_2 (x_dk dn_264_0_0_ok 24 rfl)))
  (e_Tok2
  (e_Lok (e_st (I := eI) (er_ifeq (off := 34) (tg := 77) (x_dk dn_264_0_1_ok 0 rfl) (by decide)) nx_if1))
  (e_Lok (ld_aload_n_0 (x_dk dn_264_0_1_ok 1 rfl)))))
  (e_Tok2
  (e_Lok (lk_11_46g ho_264 (x_dk dn_264_0_1_ok 2 rfl)))
  (e_Tok2
  (e_Lok (ld_aload_n_0 (x_dk dn_264_0_1_ok 3 rfl)))
  (e_Lok (lk_11_27g ho_264 (x_dk dn_264_0_1_ok 4 rfl))))))
  (e_Tok2
  (e_Tok2
  (e_Lok (ld_aload_n_0 (x_dk dn_264_0_1_ok 5 rfl)))
  (e_Tok2
  (e_Lok (lk_11_94g ho_264 (x_dk dn_264_0_1_ok 6 rfl)))
  (e_Lok (ld_iload_n_1 (x_dk dn_264_0_1_ok 7 rfl)))))
  (e_Tok2
  (e_Lok (ps_iconst_0 (x_dk dn_264_0_1_ok 8 rfl)))
  (e_Tok2
  (e_Lok (ps_iconst_0 (x_dk dn_264_0_1_ok 9 rfl)))
  (e_Lok (lk_11_403 ho_264 (x_dk dn_264_0_1_ok 10 rfl)))))))
  (e_Tok2
  (e_Tok2
  (e_Tok2
  (e_Lok (e_st (I := eI) (er_ifeq (off := 13) (tg := 77) (x_dk dn_264_0_1_ok 11 rfl) (by decide)) nx_if1))
  (e_Tok2
  (e_Lok (ld_aload_n_0 (x_dk dn_264_0_1_ok 12 rfl)))
  (e_Lok (lk_11_64g ho_264 (x_dk dn_264_0_1_ok 13 rfl)))))
  (e_Tok2
  (e_Lok (ps_iconst_2 (x_dk dn_264_0_1_ok 14 rfl)))
  (e_Tok2
  (e_Lok (e_st (I := eI) (er_dup2 (x_dk dn_264_0_1_ok 15 rfl)) (nx_stk bf_dup2)))
  (e_Lok (sm_iaload (x_dk dn_264_0_1_ok 16 rfl))))))
  (e_Tok2
  (e_Tok2
  (e_Lok (ps_iconst_1 (x_dk dn_264_0_1_ok 17 rfl)))
  (e_Tok2
  (e_Lok (sm_iadd (x_dk dn_264_0_1_ok 18 rfl)))
  (e_Lok (sm_iastore (x_dk dn_264_0_1_ok 19 rfl)))))
  (e_Tok2
  (e_Lok (e_st (I := eI) (er_iinc (i := 1) (n := 1) (x_dk dn_264_0_1_ok 20 rfl) (by decide +kernel) (by decide)) nx_inc))
  (e_Tok2
  (e_Lok (e_st (I := eI) (er_goto (off := (-78)) (tg := 2) (x_dk dn_264_0_1_ok 21 rfl) (by decide)) nx_goto))
  (e_Lok (e_rt (I := eI) (k := 0) ⟨(x_dk dn_264_0_1_ok 22 rfl), rfl⟩)))))))
def te_264 : Nat → eE := (e_T 41 te_264_0 te_264_24)
theorem te_264_ok : ∀ pc, e_EOq eft cls elay eI n_264 pc (te_264 pc) := (e_Tok2 (te_264_0_ok) (te_264_24_ok))
theorem ho_265 : (xm_y n_265).cls = "RobotCellHouse" := rfl
def dn_265_0_0 : List (Nat × Instr × Nat) := [(0, .aload_n 0, 1), (1, .getfield 42, 3), (4, .iload_n 1, 1), (5, .iload_n 2, 1), (6, .invokevirtual 549, 3), (9, .iconst 0, 1), (10, .istore_n 3, 1), (11, .iload_n 3, 1), (12, .aload_n 0, 1), (13, .getfield 94, 3), (16, .if_icmp .ge 39, 3), (19, .aload_n 0, 1), (20, .getfield 27, 3), (23, .iload_n 3, 1), (24, .aaload, 1), (25, .getfield 286, 3), (28, .iconst 1, 1), (29, .if_icmp .ne 11, 3), (32, .aload_n 0, 1), (33, .getfield 19, 3), (36, .iload_n 3, 1), (37, .invokevirtual 550, 3), (40, .aload_n 0, 1), (41, .getfield 27, 3), (44, .iload_n 3, 1)]
set_option maxRecDepth 20000 in
theorem dn_265_0_0_ok : dn_265_0_0.all (fun q => decide (decode (xm_b n_265) q.1 = .ok (q.2.1, q.2.2))) = true := xa_g_ok (by decide +kernel)
def dn_265_0_1 : List (Nat × Instr × Nat) := [(45, .aaload, 1), (46, .invokevirtual 506, 3), (49, .iinc 3 1, 3), (52, .goto (-41), 3), (55, .return_, 1)]
set_option maxRecDepth 20000 in
theorem dn_265_0_1_ok : dn_265_0_1.all (fun q => decide (decode (xm_b n_265) q.1 = .ok (q.2.1, q.2.2))) = true := xa_g_ok (by decide +kernel)
def te_265_0 : Nat → eE := (e_T 24 (e_T 10 (e_T 4 (e_T 0 (e_L 0 (0, ei_load 0 2 1, 0, 0)) (e_T 1 (e_L 1 (0, ei_getf eft elay 11 5 4, 0, 0)) (e_L 4 (0, ei_load 1 0 5, 0, 0)))) (e_T 6 (e_T 5 (e_L 5 (0, ei_load 2 0 6, 0, 0)) (e_L 6 (2, e_nof, 34, 3))) (e_T 9 (e_L 9 (0, ei_push (0, 0) 10, 0, 0)) (e_L 10 (0, ei_stor 3 0 11, 0, 0))))) (e_T 16 (e_T 12 (e_T 11 (e_L 11 (0, ei_load 3 0 12, 0, 0)) (e_L 12 (0, ei_load 0 2 13, 0, 0))) (e_T 13 (e_L 13 (0, ei_getf eft elay 11 11 16, 0, 0)) (e_L 16 (0, ei_if2 3 55 19, 0, 0)))) (e_T 20 (e_T 19 (e_L 19 (0, ei_load 0 2 20, 0, 0)) (e_L 20 (0, ei_getf eft elay 11 2 23, 0, 0))) (e_T 23 (e_L 23 (0, ei_load 3 0 24, 0, 0)) (e_L 24 (0, ei_aald elay 25, 0, 0)))))) (e_T 37 (e_T 29 (e_T 25 (e_L 25 (0, ei_getf eft elay 0 11 28, 0, 0)) (e_T 28 (e_L 28 (0, ei_push (0, 1) 29, 0, 0)) (e_L 29 (0, ei_if2 1 40 32, 0, 0)))) (e_T 33 (e_T 32 (e_L 32 (0, ei_load 0 2 33, 0, 0)) (e_L 33 (0, ei_getf eft elay 11 1 36, 0, 0))) (e_T 36 (e_L 36 (0, ei_load 3 0 37, 0, 0)) (e_L 37 (2, e_nof, 41, 2))))) (e_T 45 (e_T 41 (e_T 40 (e_L 40 (0, ei_load 0 2 41, 0, 0)) (e_L 41 (0, ei_getf eft elay 11 2 44, 0, 0))) (e_T 44 (e_L 44 (0, ei_load 3 0 45, 0, 0)) (e_L 45 (0, ei_aald elay 46, 0, 0)))) (e_T 49 (e_T 46 (e_L 46 (2, e_nof, 17, 1)) (e_L 49 (0, ei_inc 3 1 52, 0, 0))) (e_T 52 (e_L 52 (0, ei_goto 11, 0, 0)) (e_L 55 (1, e_nof, 0, 0)))))))
set_option maxRecDepth 20000 in
set_option maxHeartbeats 4000000 in
theorem te_265_0_ok : ∀ pc, e_EOq eft cls elay eI n_265 pc (te_265_0 pc) :=
  (e_Tok2
  (e_Tok2
  (e_Tok2
  (e_Tok2
  (e_Lok (ld_aload_n_0 (x_dk dn_265_0_0_ok 0 rfl)))
  (e_Tok2
  (e_Lok (lk_11_42g ho_265 (x_dk dn_265_0_0_ok 1 rfl)))
  (e_Lok (ld_iload_n_1 (x_dk dn_265_0_0_ok 2 rfl)))))
  (e_Tok2
  (e_Tok2
  (e_Lok (ld_iload_n_2 (x_dk dn_265_0_0_ok 3 rfl)))
  (e_Lok (lk_11_549 ho_265 (x_dk dn_265_0_0_ok 4 rfl))))
  (e_Tok2
  (e_Lok (ps_iconst_0 (x_dk dn_265_0_0_ok 5 rfl)))
  (e_Lok (e_st (I := eI) (er_istore_n (i := 3) (x_dk dn_265_0_0_ok 6 rfl) (by decide +kernel)) nx_stor)))))
  (e_Tok2
  (e_Tok2
  (e_Tok2
  (e_Lok (ld_iload_n_3 (x_dk dn_265_0_0_ok 7 rfl)))
  (e_Lok (ld_aload_n_0 (x_dk dn_265_0_0_ok 8 rfl))))
  (e_Tok2
  (e_Lok (lk_11_94g ho_265 (x_dk dn_265_0_0_ok 9 rfl)))
  (e_Lok (e_st (I := eI) (er_icmpge (off := 39) (tg := 55) (x_dk dn_265_0_0_ok 10 rfl) (by decide)) nx_if2))))
  (e_Tok2
  (e_Tok2
  (e_Lok (ld_aload_n_0 (x_dk dn_265_0_0_ok 11 rfl)))
  (e_Lok (lk_11_27g ho_265 (x_dk dn_265_0_0_ok 12 rfl))))
  (e_Tok2
  (e_Lok (ld_iload_n_3 (x_dk dn_265_0_0_ok 13 rfl)))
  (e_Lok (e_st (I := eI) (er_aaload (x_dk dn_265_0_0_ok 14 rfl)) nx_aald))))))
  (e_Tok2
  (e_Tok2
  (e_Tok2
  (e_Lok (lk_11_286g ho_265 (x_dk dn_265_0_0_ok 15 rfl)))
  (e_Tok2
  (e_Lok (ps_iconst_1 (x_dk dn_265_0_0_ok 16 rfl)))
  (e_Lok (e_st (I := eI) (er_icmpne (off := 11) (tg := 40) (x_dk dn_265_0_0_ok 17 rfl) (by decide)) nx_if2))))
  (e_Tok2
  (e_Tok2
  (e_Lok (ld_aload_n_0 (x_dk dn_265_0_0_ok 18 rfl)))
  (e_Lok (lk_11_19g ho_265 (x_dk dn_265_0_0_ok 19 rfl))))
  (e_Tok2
  (e_Lok (ld_iload_n_3 (x_dk dn_265_0_0_ok 20 rfl)))
  (e_Lok (lk_11_550 ho_265 (x_dk dn_265_0_0_ok 21 rfl))))))
  (e_Tok2
  (e_Tok2
  (e_Tok2
  (e_Lok (ld_aload_n_0 (x_dk dn_265_0_0_ok 22 rfl)))
  (e_Lok (lk_11_27g ho_265 (x_dk dn_265_0_0_ok 23 rfl))))
  (e_Tok2
  (e_Lok (ld_iload_n_3 (x_dk dn_265_0_0_ok 24 rfl)))
  (e_Lok (e_st (I := eI) (er_aaload (x_dk dn_265_0_1_ok 0 rfl)) nx_aald))))
  (e_Tok2
  (e_Tok2
  (e_Lok (lk_11_506 ho_265 (x_dk dn_265_0_1_ok 1 rfl)))
  (e_Lok (e_st (I := eI) (er_iinc (i := 3) (n := 1) (x_dk dn_265_0_1_ok 2 rfl) (by decide +kernel) (by decide)) nx_inc)))
  (e_Tok2
  (e_Lok (e_st (I := eI) (er_goto (off := (-41)) (tg := 11) (x_dk dn_265_0_1_ok 3 rfl) (by decide)) nx_goto))
  (e_Lok (e_rt (I := eI) (k := 0) ⟨(x_dk dn_265_0_1_ok 4 rfl), rfl⟩)))))))
def te_265 : Nat → eE := te_265_0
theorem te_265_ok : ∀ pc, e_EOq eft cls elay eI n_265 pc (te_265 pc) := te_265_0_ok
theorem ho_266 : (xm_y n_266).cls = "RobotCellHouseModel" := rfl
def dn_266_0_0 : List (Nat × Instr × Nat) := [(0, .lload_n 0, 1), (1, .lload_n 2, 1), (2, .lcmp, 1), (3, .ifCond .lt 14, 3), (6, .lload_n 0, 1), (7, .lload 4, 2), (9, .lcmp, 1), (10, .ifCond .gt 7, 3), (13, .iconst 1, 1), (14, .goto 4, 3), (17, .iconst 0, 1), (18, .ireturn, 1)]
set_option maxRecDepth 20000 in
theorem dn_266_0_0_ok : dn_266_0_0.all (fun q => decide (decode (xm_b n_266) q.1 = .ok (q.2.1, q.2.2))) = true := xa_g_ok (by decide +kernel)
def te_266_0 : Nat → eE := (e_T 7 (e_T 2 (e_T 0 (e_L 0 (0, ei_load 0 1 1, 0, 0)) (e_T 1 (e_L 1 (0, ei_load 2 1 2, 0, 0)) (e_L 2 (0, ei_binL eG_cmp 3, 0, 0)))) (e_T 3 (e_L 3 (0, ei_if1 2 17 6, 0, 0)) (e_T 6 (e_L 6 (0, ei_load 0 1 7, 0, 0)) (e_L 7 (0, ei_load 4 1 9, 0, 0))))) (e_T 13 (e_T 9 (e_L 9 (0, ei_binL eG_cmp 10, 0, 0)) (e_T 10 (e_L 10 (0, ei_if1 4 17 13, 0, 0)) (e_L 13 (0, ei_push (0, 1) 14, 0, 0)))) (e_T 14 (e_L 14 (0, ei_goto 18, 0, 0)) (e_T 17 (e_L 17 (0, ei_push (0, 0) 18, 0, 0)) (e_L 18 (1, e_nof, 4, 0))))))
set_option maxRecDepth 20000 in
set_option maxHeartbeats 4000000 in
theorem te_266_0_ok : ∀ pc, e_EOq eft cls elay eI n_266 pc (te_266_0 pc) :=
  (e_Tok2
  (e_Tok2
  (e_Tok2
  (e_Lok (ld_lload_n_0 (x_dk dn_266_0_0_ok 0 rfl)))
  (e_Tok2
  (e_Lok (ld_lload_n_2 (x_dk dn_266_0_0_ok 1 rfl)))
  (e_Lok (e_st (I := eI) (er_lcmp (x_dk dn_266_0_0_ok 2 rfl)) (nx_binL bG_lcmp)))))
  (e_Tok2
  (e_Lok (e_st (I := eI) (er_iflt (off := 14) (tg := 17) (x_dk dn_266_0_0_ok 3 rfl) (by decide)) nx_if1))
  (e_Tok2
  (e_Lok (ld_lload_n_0 (x_dk dn_266_0_0_ok 4 rfl)))
  (e_Lok (ld_lload_4 (x_dk dn_266_0_0_ok 5 rfl))))))
  (e_Tok2
  (e_Tok2
  (e_Lok (e_st (I := eI) (er_lcmp (x_dk dn_266_0_0_ok 6 rfl)) (nx_binL bG_lcmp)))
  (e_Tok2
  (e_Lok (e_st (I := eI) (er_ifgt (off := 7) (tg := 17) (x_dk dn_266_0_0_ok 7 rfl) (by decide)) nx_if1))
  (e_Lok (ps_iconst_1 (x_dk dn_266_0_0_ok 8 rfl)))))
  (e_Tok2
  (e_Lok (e_st (I := eI) (er_goto (off := 4) (tg := 18) (x_dk dn_266_0_0_ok 9 rfl) (by decide)) nx_goto))
  (e_Tok2
  (e_Lok (ps_iconst_0 (x_dk dn_266_0_0_ok 10 rfl)))
  (e_Lok (e_rt (I := eI) (k := 4) ⟨(x_dk dn_266_0_0_ok 11 rfl), rfl⟩))))))
def te_266 : Nat → eE := te_266_0
theorem te_266_ok : ∀ pc, e_EOq eft cls elay eI n_266 pc (te_266 pc) := te_266_0_ok
theorem ho_267 : (xm_y n_267).cls = "RobotCellHouseModel" := rfl
def dn_267_0_0 : List (Nat × Instr × Nat) := [(0, .aload_n 0, 1), (1, .iconst 0, 1), (2, .putfield 265, 3), (5, .aload_n 0, 1), (6, .iconst 0, 1), (7, .putfield 269, 3), (10, .aload_n 0, 1), (11, .iconst 0, 1), (12, .putfield 273, 3), (15, .aload_n 0, 1), (16, .iconst 0, 1), (17, .putfield 276, 3), (20, .aload_n 0, 1), (21, .iconst 0, 1), (22, .putfield 279, 3), (25, .aload_n 0, 1), (26, .iconst 0, 1), (27, .putfield 282, 3), (30, .aload_n 0, 1), (31, .iconst 0, 1), (32, .putfield 285, 3), (35, .aload_n 0, 1), (36, .iconst 0, 1), (37, .putfield 288, 3), (40, .aload_n 0, 1)]
set_option maxRecDepth 20000 in
theorem dn_267_0_0_ok : dn_267_0_0.all (fun q => decide (decode (xm_b n_267) q.1 = .ok (q.2.1, q.2.2))) = true := xa_g_ok (by decide +kernel)
def dn_267_0_1 : List (Nat × Instr × Nat) := [(41, .iconst 0, 1), (42, .putfield 291, 3), (45, .iconst 0, 1), (46, .istore_n 1, 1), (47, .iload_n 1, 1), (48, .ldc 7, 2), (50, .if_icmp .ge 16, 3), (53, .aload_n 0, 1), (54, .getfield 8, 3), (57, .iload_n 1, 1), (58, .iconst 0, 1), (59, .iastore, 1), (60, .iinc 1 1, 3), (63, .goto (-16), 3), (66, .iconst 0, 1), (67, .istore_n 1, 1), (68, .iload_n 1, 1), (69, .iconst 4, 1), (70, .if_icmp .ge 100, 3), (73, .aload_n 0, 1), (74, .getfield 43, 3), (77, .iload_n 1, 1), (78, .iconst 0, 1), (79, .iastore, 1), (80, .aload_n 0, 1)]
set_option maxRecDepth 20000 in
theorem dn_267_0_1_ok : dn_267_0_1.all (fun q => decide (decode (xm_b n_267) q.1 = .ok (q.2.1, q.2.2))) = true := xa_g_ok (by decide +kernel)
def dn_267_0_2 : List (Nat × Instr × Nat) := [(81, .getfield 8, 3), (84, .iload_n 1, 1), (85, .invokestatic 294, 3), (88, .iconst 1, 1), (89, .iadd, 1), (90, .iconst (-1), 1), (91, .iastore, 1), (92, .aload_n 0, 1), (93, .getfield 8, 3), (96, .iload_n 1, 1), (97, .invokestatic 294, 3), (100, .iconst 2, 1), (101, .iadd, 1), (102, .iconst (-1), 1), (103, .iastore, 1), (104, .aload_n 0, 1), (105, .getfield 8, 3), (108, .iload_n 1, 1), (109, .invokestatic 294, 3), (112, .iconst 3, 1), (113, .iadd, 1), (114, .iconst (-1), 1), (115, .iastore, 1), (116, .aload_n 0, 1), (117, .getfield 8, 3)]
set_option maxRecDepth 20000 in
theorem dn_267_0_2_ok : dn_267_0_2.all (fun q => decide (decode (xm_b n_267) q.1 = .ok (q.2.1, q.2.2))) = true := xa_g_ok (by decide +kernel)
def dn_267_0_3 : List (Nat × Instr × Nat) := [(120, .iload_n 1, 1), (121, .invokestatic 294, 3), (124, .bipush 9, 2), (126, .iadd, 1), (127, .iconst (-1), 1), (128, .iastore, 1), (129, .aload_n 0, 1), (130, .getfield 104, 3), (133, .iload_n 1, 1), (134, .iconst (-1), 1), (135, .iastore, 1), (136, .aload_n 0, 1), (137, .getfield 24, 3), (140, .iload_n 1, 1), (141, .iconst 0, 1), (142, .iastore, 1), (143, .aload_n 0, 1), (144, .getfield 201, 3), (147, .iload_n 1, 1), (148, .iconst 0, 1), (149, .iastore, 1), (150, .aload_n 0, 1), (151, .getfield 204, 3), (154, .iload_n 1, 1), (155, .iconst 0, 1)]
set_option maxRecDepth 20000 in
theorem dn_267_0_3_ok : dn_267_0_3.all (fun q => decide (decode (xm_b n_267) q.1 = .ok (q.2.1, q.2.2))) = true := xa_g_ok (by decide +kernel)
def dn_267_1_0 : List (Nat × Instr × Nat) := [(156, .iastore, 1), (157, .aload_n 0, 1), (158, .getfield 207, 3), (161, .iload_n 1, 1), (162, .iconst 0, 1), (163, .bastore, 1), (164, .iinc 1 1, 3), (167, .goto (-99), 3), (170, .iconst 0, 1), (171, .istore_n 1, 1), (172, .iload_n 1, 1), (173, .bipush 16, 2), (175, .if_icmp .ge 21, 3), (178, .aload_n 0, 1), (179, .getfield 8, 3), (182, .iload_n 1, 1), (183, .invokestatic 298, 3), (186, .iconst 1, 1), (187, .iadd, 1), (188, .iconst (-1), 1), (189, .iastore, 1), (190, .iinc 1 1, 3), (193, .goto (-21), 3), (196, .iconst 0, 1), (197, .istore_n 1, 1)]
set_option maxRecDepth 20000 in
theorem dn_267_1_0_ok : dn_267_1_0.all (fun q => decide (decode (xm_b n_267) q.1 = .ok (q.2.1, q.2.2))) = true := xa_g_ok (by decide +kernel)
def dn_267_1_1 : List (Nat × Instr × Nat) := [(198, .iload_n 1, 1), (199, .bipush 8, 2), (201, .if_icmp .ge 55, 3), (204, .aload_n 0, 1), (205, .getfield 8, 3), (208, .sipush 20868, 3), (211, .iload_n 1, 1), (212, .iadd, 1), (213, .iconst (-1), 1), (214, .iastore, 1), (215, .aload_n 0, 1), (216, .getfield 8, 3), (219, .sipush 20836, 3), (222, .iconst 4, 1), (223, .iload_n 1, 1), (224, .imul, 1), (225, .iadd, 1), (226, .iconst 1, 1), (227, .iastore, 1), (228, .aload_n 0, 1), (229, .getfield 8, 3), (232, .sipush 20836, 3), (235, .iconst 4, 1), (236, .iload_n 1, 1), (237, .imul, 1)]
set_option maxRecDepth 20000 in
theorem dn_267_1_1_ok : dn_267_1_1.all (fun q => decide (decode (xm_b n_267) q.1 = .ok (q.2.1, q.2.2))) = true := xa_g_ok (by decide +kernel)
def dn_267_1_2 : List (Nat × Instr × Nat) := [(238, .iadd, 1), (239, .iconst 1, 1), (240, .iadd, 1), (241, .iconst 1, 1), (242, .iastore, 1), (243, .aload_n 0, 1), (244, .getfield 137, 3), (247, .iload_n 1, 1), (248, .iconst 0, 1), (249, .bastore, 1), (250, .iinc 1 1, 3), (253, .goto (-55), 3), (256, .iconst 0, 1), (257, .istore_n 1, 1), (258, .iload_n 1, 1), (259, .bipush 64, 2), (261, .if_icmp .ge 16, 3), (264, .aload_n 0, 1), (265, .getfield 140, 3), (268, .iload_n 1, 1), (269, .iconst (-1), 1), (270, .iastore, 1), (271, .iinc 1 1, 3), (274, .goto (-16), 3), (277, .iconst 0, 1)]
set_option maxRecDepth 20000 in
theorem dn_267_1_2_ok : dn_267_1_2.all (fun q => decide (decode (xm_b n_267) q.1 = .ok (q.2.1, q.2.2))) = true := xa_g_ok (by decide +kernel)
def dn_267_1_3 : List (Nat × Instr × Nat) := [(278, .istore_n 1, 1), (279, .iload_n 1, 1), (280, .sipush 448, 3), (283, .if_icmp .ge 16, 3), (286, .aload_n 0, 1), (287, .getfield 83, 3), (290, .iload_n 1, 1), (291, .iconst 0, 1), (292, .bastore, 1), (293, .iinc 1 1, 3), (296, .goto (-17), 3), (299, .return_, 1)]
set_option maxRecDepth 20000 in
theorem dn_267_1_3_ok : dn_267_1_3.all (fun q => decide (decode (xm_b n_267) q.1 = .ok (q.2.1, q.2.2))) = true := xa_g_ok (by decide +kernel)
def te_267_0 : Nat → eE := (e_T 16 (e_T 6 (e_T 1 (e_T 0 (e_L 0 (0, ei_load 0 2 1, 0, 0)) (e_L 1 (0, ei_push (0, 0) 2, 0, 0))) (e_T 2 (e_L 2 (0, ei_putf eft elay 12 3 1 5, 0, 0)) (e_T 5 (e_L 5 (0, ei_load 0 2 6, 0, 0)) (e_L 6 (0, ei_push (0, 0) 7, 0, 0))))) (e_T 11 (e_T 7 (e_L 7 (0, ei_putf eft elay 12 10 0 10, 0, 0)) (e_T 10 (e_L 10 (0, ei_load 0 2 11, 0, 0)) (e_L 11 (0, ei_push (0, 0) 12, 0, 0)))) (e_T 12 (e_L 12 (0, ei_putf eft elay 12 23 0 15, 0, 0)) (e_T 15 (e_L 15 (0, ei_load 0 2 16, 0, 0)) (e_L 16 (0, ei_push (0, 0) 17, 0, 0)))))) (e_T 26 (e_T 21 (e_T 17 (e_L 17 (0, ei_putf eft elay 12 30 0 20, 0, 0)) (e_T 20 (e_L 20 (0, ei_load 0 2 21, 0, 0)) (e_L 21 (0, ei_push (0, 0) 22, 0, 0)))) (e_T 22 (e_L 22 (0, ei_putf eft elay 12 40 0 25, 0, 0)) (e_T 25 (e_L 25 (0, ei_load 0 2 26, 0, 0)) (e_L 26 (0, ei_push (0, 0) 27, 0, 0))))) (e_T 31 (e_T 27 (e_L 27 (0, ei_putf eft elay 12 42 0 30, 0, 0)) (e_T 30 (e_L 30 (0, ei_load 0 2 31, 0, 0)) (e_L 31 (0, ei_push (0, 0) 32, 0, 0)))) (e_T 32 (e_L 32 (0, ei_putf eft elay 12 49 0 35, 0, 0)) (e_T 35 (e_L 35 (0, ei_load 0 2 36, 0, 0)) (e_L 36 (0, ei_push (0, 0) 37, 0, 0)))))))
set_option maxRecDepth 20000 in
set_option maxHeartbeats 4000000 in
theorem te_267_0_ok : ∀ pc, e_EOq eft cls elay eI n_267 pc (te_267_0 pc) :=
  (e_Tok2
  (e_Tok2
  (e_Tok2
  (e_Tok2
  (e_Lok (ld_aload_n_0 (x_dk dn_267_0_0_ok 0 rfl)))
  (e_Lok (ps_iconst_0 (x_dk dn_267_0_0_ok 1 rfl))))
  (e_Tok2
  (e_Lok (lk_12_265p ho_267 (x_dk dn_267_0_0_ok 2 rfl)))
  (e_Tok2
  (e_Lok (ld_aload_n_0 (x_dk dn_267_0_0_ok 3 rfl)))
  (e_Lok (ps_iconst_0 (x_dk dn_267_0_0_ok 4 rfl))))))
  (e_Tok2
  (e_Tok2
  (e_Lok (lk_12_269p ho_267 (x_dk dn_267_0_0_ok 5 rfl)))
  (e_Tok2
  (e_Lok (ld_aload_n_0 (x_dk dn_267_0_0_ok 6 rfl)))
  (e_Lok (ps_iconst_0 (x_dk dn_267_0_0_ok 7 rfl)))))
  (e_Tok2
  (e_Lok (lk_12_273p ho_267 (x_dk dn_267_0_0_ok 8 rfl)))
  (e_Tok2
  (e_Lok (ld_aload_n_0 (x_dk dn_267_0_0_ok 9 rfl)))
  (e_Lok (ps_iconst_0 (x_dk dn_267_0_0_ok 10 rfl)))))))
  (e_Tok2
  (e_Tok2
  (e_Tok2
  (e_Lok (lk_12_276p ho_267 (x_dk dn_267_0_0_ok 11 rfl)))
  (e_Tok2
  (e_Lok (ld_aload_n_0 (x_dk dn_267_0_0_ok 12 rfl)))
  (e_Lok (ps_iconst_0 (x_dk dn_267_0_0_ok 13 rfl)))))
  (e_Tok2
  (e_Lok (lk_12_279p ho_267 (x_dk dn_267_0_0_ok 14 rfl)))
  (e_Tok2
  (e_Lok (ld_aload_n_0 (x_dk dn_267_0_0_ok 15 rfl)))
  (e_Lok (ps_iconst_0 (x_dk dn_267_0_0_ok 16 rfl))))))
  (e_Tok2
  (e_Tok2
  (e_Lok (lk_12_282p ho_267 (x_dk dn_267_0_0_ok 17 rfl)))
  (e_Tok2
  (e_Lok (ld_aload_n_0 (x_dk dn_267_0_0_ok 18 rfl)))
  (e_Lok (ps_iconst_0 (x_dk dn_267_0_0_ok 19 rfl)))))
  (e_Tok2
  (e_Lok (lk_12_285p ho_267 (x_dk dn_267_0_0_ok 20 rfl)))
  (e_Tok2
  (e_Lok (ld_aload_n_0 (x_dk dn_267_0_0_ok 21 rfl)))
  (e_Lok (ps_iconst_0 (x_dk dn_267_0_0_ok 22 rfl))))))))
def te_267_23 : Nat → eE := (e_T 54 (e_T 45 (e_T 40 (e_T 37 (e_L 37 (0, ei_putf eft elay 12 5 0 40, 0, 0)) (e_L 40 (0, ei_load 0 2 41, 0, 0))) (e_T 41 (e_L 41 (0, ei_push (0, 0) 42, 0, 0)) (e_T 42 (e_L 42 (0, ei_putf eft elay 12 118 0 45, 0, 0)) (e_L 45 (0, ei_push (0, 0) 46, 0, 0))))) (e_T 48 (e_T 46 (e_L 46 (0, ei_stor 1 0 47, 0, 0)) (e_T 47 (e_L 47 (0, ei_load 1 0 48, 0, 0)) (e_L 48 (0, ei_push (0, 33060) 50, 0, 0)))) (e_T 50 (e_L 50 (0, ei_if2 3 66 53, 0, 0)) (e_T 53 (e_L 53 (0, ei_load 0 2 54, 0, 0)) (e_L 54 (0, ei_getf eft elay 12 0 57, 0, 0)))))) (e_T 66 (e_T 59 (e_T 57 (e_L 57 (0, ei_load 1 0 58, 0, 0)) (e_T 58 (e_L 58 (0, ei_push (0, 0) 59, 0, 0)) (e_L 59 (0, ei_ast elay false 60, 0, 0)))) (e_T 60 (e_L 60 (0, ei_inc 1 1 63, 0, 0)) (e_T 63 (e_L 63 (0, ei_goto 47, 0, 0)) (e_L 66 (0, ei_push (0, 0) 67, 0, 0))))) (e_T 69 (e_T 67 (e_L 67 (0, ei_stor 1 0 68, 0, 0)) (e_T 68 (e_L 68 (0, ei_load 1 0 69, 0, 0)) (e_L 69 (0, ei_push (0, 4) 70, 0, 0)))) (e_T 70 (e_L 70 (0, ei_if2 3 170 73, 0, 0)) (e_T 73 (e_L 73 (0, ei_load 0 2 74, 0, 0)) (e_L 74 (0, ei_getf eft elay 12 15 77, 0, 0)))))))
set_option maxRecDepth 20000 in
set_option maxHeartbeats 4000000 in
theorem te_267_23_ok : ∀ pc, e_EOq eft cls elay eI n_267 pc (te_267_23 pc) :=
  (e_Tok2
  (e_Tok2
  (e_Tok2
  (e_Tok2
  (e_Lok (lk_12_288p ho_267 (x_dk dn_267_0_0_ok 23 rfl)))
  (e_Lok (ld_aload_n_0 (x_dk dn_267_0_0_ok 24 rfl))))
  (e_Tok2
  (e_Lok (ps_iconst_0 (x_dk dn_267_0_1_ok 0 rfl)))
  (e_Tok2
  (e_Lok (lk_12_291p ho_267 (x_dk dn_267_0_1_ok 1 rfl)))
  (e_Lok (ps_iconst_0 (x_dk dn_267_0_1_ok 2 rfl))))))
  (e_Tok2
  (e_Tok2
  (e_Lok (e_st (I := eI) (er_istore_n (i := 1) (x_dk dn_267_0_1_ok 3 rfl) (by decide +kernel)) nx_stor))
  (e_Tok2
  (e_Lok (ld_iload_n_1 (x_dk dn_267_0_1_ok 4 rfl)))
  (e_Lok (e_st (I := eI) (er_ldc (ix := 7) (z := 33060) (v := 33060) (x_dk dn_267_0_1_ok 5 rfl) (in_t9 (List.mem_of_getElem? (i := 86) rfl) rfl) (by decide)) (nx_push (Or.inl rfl))))))
  (e_Tok2
  (e_Lok (e_st (I := eI) (er_icmpge (off := 16) (tg := 66) (x_dk dn_267_0_1_ok 6 rfl) (by decide)) nx_if2))
  (e_Tok2
  (e_Lok (ld_aload_n_0 (x_dk dn_267_0_1_ok 7 rfl)))
  (e_Lok (lk_12_8g ho_267 (x_dk dn_267_0_1_ok 8 rfl)))))))
  (e_Tok2
  (e_Tok2
  (e_Tok2
  (e_Lok (ld_iload_n_1 (x_dk dn_267_0_1_ok 9 rfl)))
  (e_Tok2
  (e_Lok (ps_iconst_0 (x_dk dn_267_0_1_ok 10 rfl)))
  (e_Lok (sm_iastore (x_dk dn_267_0_1_ok 11 rfl)))))
  (e_Tok2
  (e_Lok (e_st (I := eI) (er_iinc (i := 1) (n := 1) (x_dk dn_267_0_1_ok 12 rfl) (by decide +kernel) (by decide)) nx_inc))
  (e_Tok2
  (e_Lok (e_st (I := eI) (er_goto (off := (-16)) (tg := 47) (x_dk dn_267_0_1_ok 13 rfl) (by decide)) nx_goto))
  (e_Lok (ps_iconst_0 (x_dk dn_267_0_1_ok 14 rfl))))))
  (e_Tok2
  (e_Tok2
  (e_Lok (e_st (I := eI) (er_istore_n (i := 1) (x_dk dn_267_0_1_ok 15 rfl) (by decide +kernel)) nx_stor))
  (e_Tok2
  (e_Lok (ld_iload_n_1 (x_dk dn_267_0_1_ok 16 rfl)))
  (e_Lok (ps_iconst_4 (x_dk dn_267_0_1_ok 17 rfl)))))
  (e_Tok2
  (e_Lok (e_st (I := eI) (er_icmpge (off := 100) (tg := 170) (x_dk dn_267_0_1_ok 18 rfl) (by decide)) nx_if2))
  (e_Tok2
  (e_Lok (ld_aload_n_0 (x_dk dn_267_0_1_ok 19 rfl)))
  (e_Lok (lk_12_43g ho_267 (x_dk dn_267_0_1_ok 20 rfl))))))))
def te_267_46 : Nat → eE := (e_T 91 (e_T 81 (e_T 78 (e_T 77 (e_L 77 (0, ei_load 1 0 78, 0, 0)) (e_L 78 (0, ei_push (0, 0) 79, 0, 0))) (e_T 79 (e_L 79 (0, ei_ast elay false 80, 0, 0)) (e_T 80 (e_L 80 (0, ei_load 0 2 81, 0, 0)) (e_L 81 (0, ei_getf eft elay 12 0 84, 0, 0))))) (e_T 88 (e_T 84 (e_L 84 (0, ei_load 1 0 85, 0, 0)) (e_T 85 (e_L 85 (2, e_nof, 268, 1)) (e_L 88 (0, ei_push (0, 1) 89, 0, 0)))) (e_T 89 (e_L 89 (0, ei_bin eF_add 90, 0, 0)) (e_T 90 (e_L 90 (0, ei_push (0, (-1)) 91, 0, 0)) (e_L 91 (0, ei_ast elay false 92, 0, 0)))))) (e_T 101 (e_T 96 (e_T 92 (e_L 92 (0, ei_load 0 2 93, 0, 0)) (e_T 93 (e_L 93 (0, ei_getf eft elay 12 0 96, 0, 0)) (e_L 96 (0, ei_load 1 0 97, 0, 0)))) (e_T 97 (e_L 97 (2, e_nof, 268, 1)) (e_T 100 (e_L 100 (0, ei_push (0, 2) 101, 0, 0)) (e_L 101 (0, ei_bin eF_add 102, 0, 0))))) (e_T 104 (e_T 102 (e_L 102 (0, ei_push (0, (-1)) 103, 0, 0)) (e_T 103 (e_L 103 (0, ei_ast elay false 104, 0, 0)) (e_L 104 (0, ei_load 0 2 105, 0, 0)))) (e_T 105 (e_L 105 (0, ei_getf eft elay 12 0 108, 0, 0)) (e_T 108 (e_L 108 (0, ei_load 1 0 109, 0, 0)) (e_L 109 (2, e_nof, 268, 1)))))))
set_option maxRecDepth 20000 in
set_option maxHeartbeats 4000000 in
theorem te_267_46_ok : ∀ pc, e_EOq eft cls elay eI n_267 pc (te_267_46 pc) :=
  (e_Tok2
  (e_Tok2
  (e_Tok2
  (e_Tok2
  (e_Lok (ld_iload_n_1 (x_dk dn_267_0_1_ok 21 rfl)))
  (e_Lok (ps_iconst_0 (x_dk dn_267_0_1_ok 22 rfl))))
  (e_Tok2
  (e_Lok (sm_iastore (x_dk dn_267_0_1_ok 23 rfl)))
  (e_Tok2
  (e_Lok (ld_aload_n_0 (x_dk dn_267_0_1_ok 24 rfl)))
  (e_Lok (lk_12_8g ho_267 (x_dk dn_267_0_2_ok 0 rfl))))))
  (e_Tok2
  (e_Tok2
  (e_Lok (ld_iload_n_1 (x_dk dn_267_0_2_ok 1 rfl)))
  (e_Tok2
  (e_Lok (lk_12_294 ho_267 (x_dk dn_267_0_2_ok 2 rfl)))
  (e_Lok (ps_iconst_1 (x_dk dn_267_0_2_ok 3 rfl)))))
  (e_Tok2
  (e_Lok (sm_iadd (x_dk dn_267_0_2_ok 4 rfl)))
  (e_Tok2
  (e_Lok (ps_iconst_m1 (x_dk dn_267_0_2_ok 5 rfl)))
  (e_Lok (sm_iastore (x_dk dn_267_0_2_ok 6 rfl)))))))
  (e_Tok2
  (e_Tok2
  (e_Tok2
  (e_Lok (ld_aload_n_0 (x_dk dn_267_0_2_ok 7 rfl)))
  (e_Tok2
  (e_Lok (lk_12_8g ho_267 (x_dk dn_267_0_2_ok 8 rfl)))
  (e_Lok (ld_iload_n_1 (x_dk dn_267_0_2_ok 9 rfl)))))
  (e_Tok2
  (e_Lok (lk_12_294 ho_267 (x_dk dn_267_0_2_ok 10 rfl)))
  (e_Tok2
  (e_Lok (ps_iconst_2 (x_dk dn_267_0_2_ok 11 rfl)))
  (e_Lok (sm_iadd (x_dk dn_267_0_2_ok 12 rfl))))))
  (e_Tok2
  (e_Tok2
  (e_Lok (ps_iconst_m1 (x_dk dn_267_0_2_ok 13 rfl)))
  (e_Tok2
  (e_Lok (sm_iastore (x_dk dn_267_0_2_ok 14 rfl)))
  (e_Lok (ld_aload_n_0 (x_dk dn_267_0_2_ok 15 rfl)))))
  (e_Tok2
  (e_Lok (lk_12_8g ho_267 (x_dk dn_267_0_2_ok 16 rfl)))
  (e_Tok2
  (e_Lok (ld_iload_n_1 (x_dk dn_267_0_2_ok 17 rfl)))
  (e_Lok (lk_12_294 ho_267 (x_dk dn_267_0_2_ok 18 rfl))))))))
def te_267_69 : Nat → eE := (e_T 128 (e_T 117 (e_T 114 (e_T 112 (e_L 112 (0, ei_push (0, 3) 113, 0, 0)) (e_T 113 (e_L 113 (0, ei_bin eF_add 114, 0, 0)) (e_L 114 (0, ei_push (0, (-1)) 115, 0, 0)))) (e_T 115 (e_L 115 (0, ei_ast elay false 116, 0, 0)) (e_T 116 (e_L 116 (0, ei_load 0 2 117, 0, 0)) (e_L 117 (0, ei_getf eft elay 12 0 120, 0, 0))))) (e_T 124 (e_T 120 (e_L 120 (0, ei_load 1 0 121, 0, 0)) (e_T 121 (e_L 121 (2, e_nof, 268, 1)) (e_L 124 (0, ei_push (0, 9) 126, 0, 0)))) (e_T 126 (e_L 126 (0, ei_bin eF_add 127, 0, 0)) (e_T 127 (e_L 127 (0, ei_push (0, (-1)) 128, 0, 0)) (e_L 128 (0, ei_ast elay false 129, 0, 0)))))) (e_T 136 (e_T 133 (e_T 129 (e_L 129 (0, ei_load 0 2 130, 0, 0)) (e_T 130 (e_L 130 (0, ei_getf eft elay 12 37 133, 0, 0)) (e_L 133 (0, ei_load 1 0 134, 0, 0)))) (e_T 134 (e_L 134 (0, ei_push (0, (-1)) 135, 0, 0)) (e_T 135 (e_L 135 (0, ei_ast elay false 136, 0, 0)) (e_L 136 (0, ei_load 0 2 137, 0, 0))))) (e_T 141 (e_T 137 (e_L 137 (0, ei_getf eft elay 12 7 140, 0, 0)) (e_T 140 (e_L 140 (0, ei_load 1 0 141, 0, 0)) (e_L 141 (0, ei_push (0, 0) 142, 0, 0)))) (e_T 142 (e_L 142 (0, ei_ast elay false 143, 0, 0)) (e_T 143 (e_L 143 (0, ei_load 0 2 144, 0, 0)) (e_L 144 (0, ei_getf eft elay 12 75 147, 0, 0)))))))
set_option maxRecDepth 20000 in
set_option maxHeartbeats 4000000 in
theorem te_267_69_ok : ∀ pc, e_EOq eft cls elay eI n_267 pc (te_267_69 pc) :=
  (e_Tok2
  (e_Tok2
  (e_Tok2
  (e_Tok2
  (e_Lok (ps_iconst_3 (x_dk dn_267_0_2_ok 19 rfl)))
  (e_Tok2
  (e_Lok (sm_iadd (x_dk dn_267_0_2_ok 20 rfl)))
  (e_Lok (ps_iconst_m1 (x_dk dn_267_0_2_ok 21 rfl)))))
  (e_Tok2
  (e_Lok (sm_iastore (x_dk dn_267_0_2_ok 22 rfl)))
  (e_Tok2
  (e_Lok (ld_aload_n_0 (x_dk dn_267_0_2_ok 23 rfl)))
  (e_Lok (lk_12_8g ho_267 (x_dk dn_267_0_2_ok 24 rfl))))))
  (e_Tok2
  (e_Tok2
  (e_Lok (ld_iload_n_1 (x_dk dn_267_0_3_ok 0 rfl)))
  (e_Tok2
  (e_Lok (lk_12_294 ho_267 (x_dk dn_267_0_3_ok 1 rfl)))
  (e_Lok (ps_bipush_9 (x_dk dn_267_0_3_ok 2 rfl)))))
  (e_Tok2
  (e_Lok (sm_iadd (x_dk dn_267_0_3_ok 3 rfl)))
  (e_Tok2
  (e_Lok (ps_iconst_m1 (x_dk dn_267_0_3_ok 4 rfl)))
  (e_Lok (sm_iastore (x_dk dn_267_0_3_ok 5 rfl)))))))
  (e_Tok2
  (e_Tok2
  (e_Tok2
  (e_Lok (ld_aload_n_0 (x_dk dn_267_0_3_ok 6 rfl)))
  (e_Tok2
  (e_Lok (lk_12_104g ho_267 (x_dk dn_267_0_3_ok 7 rfl)))
  (e_Lok (ld_iload_n_1 (x_dk dn_267_0_3_ok 8 rfl)))))
  (e_Tok2
  (e_Lok (ps_iconst_m1 (x_dk dn_267_0_3_ok 9 rfl)))
  (e_Tok2
  (e_Lok (sm_iastore (x_dk dn_267_0_3_ok 10 rfl)))
  (e_Lok (ld_aload_n_0 (x_dk dn_267_0_3_ok 11 rfl))))))
  (e_Tok2
  (e_Tok2
  (e_Lok (lk_12_24g ho_267 (x_dk dn_267_0_3_ok 12 rfl)))
  (e_Tok2
  (e_Lok (ld_iload_n_1 (x_dk dn_267_0_3_ok 13 rfl)))
  (e_Lok (ps_iconst_0 (x_dk dn_267_0_3_ok 14 rfl)))))
  (e_Tok2
  (e_Lok (sm_iastore (x_dk dn_267_0_3_ok 15 rfl)))
  (e_Tok2
  (e_Lok (ld_aload_n_0 (x_dk dn_267_0_3_ok 16 rfl)))
  (e_Lok (lk_12_201g ho_267 (x_dk dn_267_0_3_ok 17 rfl))))))))
def te_267_93 : Nat → eE := (e_T 161 (e_T 151 (e_T 148 (e_T 147 (e_L 147 (0, ei_load 1 0 148, 0, 0)) (e_L 148 (0, ei_push (0, 0) 149, 0, 0))) (e_T 149 (e_L 149 (0, ei_ast elay false 150, 0, 0)) (e_T 150 (e_L 150 (0, ei_load 0 2 151, 0, 0)) (e_L 151 (0, ei_getf eft elay 12 76 154, 0, 0))))) (e_T 156 (e_T 154 (e_L 154 (0, ei_load 1 0 155, 0, 0)) (e_T 155 (e_L 155 (0, ei_push (0, 0) 156, 0, 0)) (e_L 156 (0, ei_ast elay false 157, 0, 0)))) (e_T 157 (e_L 157 (0, ei_load 0 2 158, 0, 0)) (e_T 158 (e_L 158 (0, ei_getf eft elay 12 77 161, 0, 0)) (e_L 161 (0, ei_load 1 0 162, 0, 0)))))) (e_T 171 (e_T 164 (e_T 162 (e_L 162 (0, ei_push (0, 0) 163, 0, 0)) (e_T 163 (e_L 163 (0, ei_ast elay true 164, 0, 0)) (e_L 164 (0, ei_inc 1 1 167, 0, 0)))) (e_T 167 (e_L 167 (0, ei_goto 68, 0, 0)) (e_T 170 (e_L 170 (0, ei_push (0, 0) 171, 0, 0)) (e_L 171 (0, ei_stor 1 0 172, 0, 0))))) (e_T 175 (e_T 172 (e_L 172 (0, ei_load 1 0 173, 0, 0)) (e_T 173 (e_L 173 (0, ei_push (0, 16) 175, 0, 0)) (e_L 175 (0, ei_if2 3 196 178, 0, 0)))) (e_T 178 (e_L 178 (0, ei_load 0 2 179, 0, 0)) (e_T 179 (e_L 179 (0, ei_getf eft elay 12 0 182, 0, 0)) (e_L 182 (0, ei_load 1 0 183, 0, 0)))))))
set_option maxRecDepth 20000 in
set_option maxHeartbeats 4000000 in
theorem te_267_93_ok : ∀ pc, e_EOq eft cls elay eI n_267 pc (te_267_93 pc) :=
  (e_Tok2
  (e_Tok2
  (e_Tok2
  (e_Tok2
  (e_Lok (ld_iload_n_1 (x_dk dn_267_0_3_ok 18 rfl)))
  (e_Lok (ps_iconst_0 (x_dk dn_267_0_3_ok 19 rfl))))
  (e_Tok2
  (e_Lok (sm_iastore (x_dk dn_267_0_3_ok 20 rfl)))
  (e_Tok2
  (e_Lok (ld_aload_n_0 (x_dk dn_267_0_3_ok 21 rfl)))
  (e_Lok (lk_12_204g ho_267 (x_dk dn_267_0_3_ok 22 rfl))))))
  (e_Tok2
  (e_Tok2
  (e_Lok (ld_iload_n_1 (x_dk dn_267_0_3_ok 23 rfl)))
  (e_Tok2
  (e_Lok (ps_iconst_0 (x_dk dn_267_0_3_ok 24 rfl)))
  (e_Lok (sm_iastore (x_dk dn_267_1_0_ok 0 rfl)))))
  (e_Tok2
  (e_Lok (ld_aload_n_0 (x_dk dn_267_1_0_ok 1 rfl)))
  (e_Tok2
  (e_Lok (lk_12_207g ho_267 (x_dk dn_267_1_0_ok 2 rfl)))
  (e_Lok (ld_iload_n_1 (x_dk dn_267_1_0_ok 3 rfl)))))))
  (e_Tok2
  (e_Tok2
  (e_Tok2
  (e_Lok (ps_iconst_0 (x_dk dn_267_1_0_ok 4 rfl)))
  (e_Tok2
  (e_Lok (e_st (I := eI) (er_bastore (x_dk dn_267_1_0_ok 5 rfl)) nx_ast))
  (e_Lok (e_st (I := eI) (er_iinc (i := 1) (n := 1) (x_dk dn_267_1_0_ok 6 rfl) (by decide +kernel) (by decide)) nx_inc))))
  (e_Tok2
  (e_Lok (e_st (I := eI) (er_goto (off := (-99)) (tg := 68) (x_dk dn_267_1_0_ok 7 rfl) (by decide)) nx_goto))
  (e_Tok2
  (e_Lok (ps_iconst_0 (x_dk dn_267_1_0_ok 8 rfl)))
  (e_Lok (e_st (I := eI) (er_istore_n (i := 1) (x_dk dn_267_1_0_ok 9 rfl) (by decide +kernel)) nx_stor)))))
  (e_Tok2
  (e_Tok2
  (e_Lok (ld_iload_n_1 (x_dk dn_267_1_0_ok 10 rfl)))
  (e_Tok2
  (e_Lok (ps_bipush_16 (x_dk dn_267_1_0_ok 11 rfl)))
  (e_Lok (e_st (I := eI) (er_icmpge (off := 21) (tg := 196) (x_dk dn_267_1_0_ok 12 rfl) (by decide)) nx_if2))))
  (e_Tok2
  (e_Lok (ld_aload_n_0 (x_dk dn_267_1_0_ok 13 rfl)))
  (e_Tok2
  (e_Lok (lk_12_8g ho_267 (x_dk dn_267_1_0_ok 14 rfl)))
  (e_Lok (ld_iload_n_1 (x_dk dn_267_1_0_ok 15 rfl))))))))
def te_267_116 : Nat → eE := (e_T 201 (e_T 190 (e_T 187 (e_T 183 (e_L 183 (2, e_nof, 269, 1)) (e_T 186 (e_L 186 (0, ei_push (0, 1) 187, 0, 0)) (e_L 187 (0, ei_bin eF_add 188, 0, 0)))) (e_T 188 (e_L 188 (0, ei_push (0, (-1)) 189, 0, 0)) (e_T 189 (e_L 189 (0, ei_ast elay false 190, 0, 0)) (e_L 190 (0, ei_inc 1 1 193, 0, 0))))) (e_T 197 (e_T 193 (e_L 193 (0, ei_goto 172, 0, 0)) (e_T 196 (e_L 196 (0, ei_push (0, 0) 197, 0, 0)) (e_L 197 (0, ei_stor 1 0 198, 0, 0)))) (e_T 198 (e_L 198 (0, ei_load 1 0 199, 0, 0)) (e_T 199 (e_L 199 (0, ei_push (0, 8) 201, 0, 0)) (e_L 201 (0, ei_if2 3 256 204, 0, 0)))))) (e_T 213 (e_T 208 (e_T 204 (e_L 204 (0, ei_load 0 2 205, 0, 0)) (e_T 205 (e_L 205 (0, ei_getf eft elay 12 0 208, 0, 0)) (e_L 208 (0, ei_push (0, 20868) 211, 0, 0)))) (e_T 211 (e_L 211 (0, ei_load 1 0 212, 0, 0)) (e_T 212 (e_L 212 (0, ei_bin eF_add 213, 0, 0)) (e_L 213 (0, ei_push (0, (-1)) 214, 0, 0))))) (e_T 216 (e_T 214 (e_L 214 (0, ei_ast elay false 215, 0, 0)) (e_T 215 (e_L 215 (0, ei_load 0 2 216, 0, 0)) (e_L 216 (0, ei_getf eft elay 12 0 219, 0, 0)))) (e_T 219 (e_L 219 (0, ei_push (0, 20836) 222, 0, 0)) (e_T 222 (e_L 222 (0, ei_push (0, 4) 223, 0, 0)) (e_L 223 (0, ei_load 1 0 224, 0, 0)))))))
set_option maxRecDepth 20000 in
set_option maxHeartbeats 4000000 in
theorem te_267_116_ok : ∀ pc, e_EOq eft cls elay eI n_267 pc (te_267_116 pc) :=
  (e_Tok2
  (e_Tok2
  (e_Tok2
  (e_Tok2
  (e_Lok (lk_12_298 ho_267 (x_dk dn_267_1_0_ok 16 rfl)))
  (e_Tok2
  (e_Lok (ps_iconst_1 (x_dk dn_267_1_0_ok 17 rfl)))
  (e_Lok (sm_iadd (x_dk dn_267_1_0_ok 18 rfl)))))
  (e_Tok2
  (e_Lok (ps_iconst_m1 (x_dk dn_267_1_0_ok 19 rfl)))
  (e_Tok2
  (e_Lok (sm_iastore (x_dk dn_267_1_0_ok 20 rfl)))
  (e_Lok (e_st (I := eI) (er_iinc (i := 1) (n := 1) (x_dk dn_267_1_0_ok 21 rfl) (by decide +kernel) (by decide)) nx_inc)))))
  (e_Tok2
  (e_Tok2
  (e_Lok (e_st (I := eI) (er_goto (off := (-21)) (tg := 172) (x_dk dn_267_1_0_ok 22 rfl) (by decide)) nx_goto))
  (e_Tok2
  (e_Lok (ps_iconst_0 (x_dk dn_267_1_0_ok 23 rfl)))
  (e_Lok (e_st (I := eI) (er_istore_n (i := 1) (x_dk dn_267_1_0_ok 24 rfl) (by decide +kernel)) nx_stor))))
  (e_Tok2
  (e_Lok (ld_iload_n_1 (x_dk dn_267_1_1_ok 0 rfl)))
  (e_Tok2
  (e_Lok (ps_bipush_8 (x_dk dn_267_1_1_ok 1 rfl)))
  (e_Lok (e_st (I := eI) (er_icmpge (off := 55) (tg := 256) (x_dk dn_267_1_1_ok 2 rfl) (by decide)) nx_if2))))))
  (e_Tok2
  (e_Tok2
  (e_Tok2
  (e_Lok (ld_aload_n_0 (x_dk dn_267_1_1_ok 3 rfl)))
  (e_Tok2
  (e_Lok (lk_12_8g ho_267 (x_dk dn_267_1_1_ok 4 rfl)))
  (e_Lok (ps_sipush_20868 (x_dk dn_267_1_1_ok 5 rfl)))))
  (e_Tok2
  (e_Lok (ld_iload_n_1 (x_dk dn_267_1_1_ok 6 rfl)))
  (e_Tok2
  (e_Lok (sm_iadd (x_dk dn_267_1_1_ok 7 rfl)))
  (e_Lok (ps_iconst_m1 (x_dk dn_267_1_1_ok 8 rfl))))))
  (e_Tok2
  (e_Tok2
  (e_Lok (sm_iastore (x_dk dn_267_1_1_ok 9 rfl)))
  (e_Tok2
  (e_Lok (ld_aload_n_0 (x_dk dn_267_1_1_ok 10 rfl)))
  (e_Lok (lk_12_8g ho_267 (x_dk dn_267_1_1_ok 11 rfl)))))
  (e_Tok2
  (e_Lok (ps_sipush_20836 (x_dk dn_267_1_1_ok 12 rfl)))
  (e_Tok2
  (e_Lok (ps_iconst_4 (x_dk dn_267_1_1_ok 13 rfl)))
  (e_Lok (ld_iload_n_1 (x_dk dn_267_1_1_ok 14 rfl))))))))
def te_267_140 : Nat → eE := (e_T 238 (e_T 228 (e_T 225 (e_T 224 (e_L 224 (0, ei_bin eF_mul 225, 0, 0)) (e_L 225 (0, ei_bin eF_add 226, 0, 0))) (e_T 226 (e_L 226 (0, ei_push (0, 1) 227, 0, 0)) (e_T 227 (e_L 227 (0, ei_ast elay false 228, 0, 0)) (e_L 228 (0, ei_load 0 2 229, 0, 0))))) (e_T 235 (e_T 229 (e_L 229 (0, ei_getf eft elay 12 0 232, 0, 0)) (e_T 232 (e_L 232 (0, ei_push (0, 20836) 235, 0, 0)) (e_L 235 (0, ei_push (0, 4) 236, 0, 0)))) (e_T 236 (e_L 236 (0, ei_load 1 0 237, 0, 0)) (e_T 237 (e_L 237 (0, ei_bin eF_mul 238, 0, 0)) (e_L 238 (0, ei_bin eF_add 239, 0, 0)))))) (e_T 244 (e_T 241 (e_T 239 (e_L 239 (0, ei_push (0, 1) 240, 0, 0)) (e_T 240 (e_L 240 (0, ei_bin eF_add 241, 0, 0)) (e_L 241 (0, ei_push (0, 1) 242, 0, 0)))) (e_T 242 (e_L 242 (0, ei_ast elay false 243, 0, 0)) (e_T 243 (e_L 243 (0, ei_load 0 2 244, 0, 0)) (e_L 244 (0, ei_getf eft elay 12 51 247, 0, 0))))) (e_T 249 (e_T 247 (e_L 247 (0, ei_load 1 0 248, 0, 0)) (e_T 248 (e_L 248 (0, ei_push (0, 0) 249, 0, 0)) (e_L 249 (0, ei_ast elay true 250, 0, 0)))) (e_T 250 (e_L 250 (0, ei_inc 1 1 253, 0, 0)) (e_T 253 (e_L 253 (0, ei_goto 198, 0, 0)) (e_L 256 (0, ei_push (0, 0) 257, 0, 0)))))))
set_option maxRecDepth 20000 in
set_option maxHeartbeats 4000000 in
theorem te_267_140_ok : ∀ pc, e_EOq eft cls elay eI n_267 pc (te_267_140 pc) :=
  (e_Tok2
  (e_Tok2
  (e_Tok2
  (e_Tok2
  (e_Lok (sm_imul (x_dk dn_267_1_1_ok 15 rfl)))
  (e_Lok (sm_iadd (x_dk dn_267_1_1_ok 16 rfl))))
  (e_Tok2
  (e_Lok (ps_iconst_1 (x_dk dn_267_1_1_ok 17 rfl)))
  (e_Tok2
  (e_Lok (sm_iastore (x_dk dn_267_1_1_ok 18 rfl)))
  (e_Lok (ld_aload_n_0 (x_dk dn_267_1_1_ok 19 rfl))))))
  (e_Tok2
  (e_Tok2
  (e_Lok (lk_12_8g ho_267 (x_dk dn_267_1_1_ok 20 rfl)))
  (e_Tok2
  (e_Lok (ps_sipush_20836 (x_dk dn_267_1_1_ok 21 rfl)))
  (e_Lok (ps_iconst_4 (x_dk dn_267_1_1_ok 22 rfl)))))
  (e_Tok2
  (e_Lok (ld_iload_n_1 (x_dk dn_267_1_1_ok 23 rfl)))
  (e_Tok2
  (e_Lok (sm_imul (x_dk dn_267_1_1_ok 24 rfl)))
  (e_Lok (sm_iadd (x_dk dn_267_1_2_ok 0 rfl)))))))
  (e_Tok2
  (e_Tok2
  (e_Tok2
  (e_Lok (ps_iconst_1 (x_dk dn_267_1_2_ok 1 rfl)))
  (e_Tok2
  (e_Lok (sm_iadd (x_dk dn_267_1_2_ok 2 rfl)))
  (e_Lok (ps_iconst_1 (x_dk dn_267_1_2_ok 3 rfl)))))
  (e_Tok2
  (e_Lok (sm_iastore (x_dk dn_267_1_2_ok 4 rfl)))
  (e_Tok2
  (e_Lok (ld_aload_n_0 (x_dk dn_267_1_2_ok 5 rfl)))
  (e_Lok (lk_12_137g ho_267 (x_dk dn_267_1_2_ok 6 rfl))))))
  (e_Tok2
  (e_Tok2
  (e_Lok (ld_iload_n_1 (x_dk dn_267_1_2_ok 7 rfl)))
  (e_Tok2
  (e_Lok (ps_iconst_0 (x_dk dn_267_1_2_ok 8 rfl)))
  (e_Lok (e_st (I := eI) (er_bastore (x_dk dn_267_1_2_ok 9 rfl)) nx_ast))))
  (e_Tok2
  (e_Lok (e_st (I := eI) (er_iinc (i := 1) (n := 1) (x_dk dn_267_1_2_ok 10 rfl) (by decide +kernel) (by decide)) nx_inc))
  (e_Tok2
  (e_Lok (e_st (I := eI) (er_goto (off := (-55)) (tg := 198) (x_dk dn_267_1_2_ok 11 rfl) (by decide)) nx_goto))
  (e_Lok (ps_iconst_0 (x_dk dn_267_1_2_ok 12 rfl))))))))
def te_267_163 : Nat → eE := (e_T 277 (e_T 265 (e_T 259 (e_T 257 (e_L 257 (0, ei_stor 1 0 258, 0, 0)) (e_T 258 (e_L 258 (0, ei_load 1 0 259, 0, 0)) (e_L 259 (0, ei_push (0, 64) 261, 0, 0)))) (e_T 261 (e_L 261 (0, ei_if2 3 277 264, 0, 0)) (e_T 264 (e_L 264 (0, ei_load 0 2 265, 0, 0)) (e_L 265 (0, ei_getf eft elay 12 52 268, 0, 0))))) (e_T 270 (e_T 268 (e_L 268 (0, ei_load 1 0 269, 0, 0)) (e_T 269 (e_L 269 (0, ei_push (0, (-1)) 270, 0, 0)) (e_L 270 (0, ei_ast elay false 271, 0, 0)))) (e_T 271 (e_L 271 (0, ei_inc 1 1 274, 0, 0)) (e_T 274 (e_L 274 (0, ei_goto 258, 0, 0)) (e_L 277 (0, ei_push (0, 0) 278, 0, 0)))))) (e_T 287 (e_T 280 (e_T 278 (e_L 278 (0, ei_stor 1 0 279, 0, 0)) (e_T 279 (e_L 279 (0, ei_load 1 0 280, 0, 0)) (e_L 280 (0, ei_push (0, 448) 283, 0, 0)))) (e_T 283 (e_L 283 (0, ei_if2 3 299 286, 0, 0)) (e_T 286 (e_L 286 (0, ei_load 0 2 287, 0, 0)) (e_L 287 (0, ei_getf eft elay 12 29 290, 0, 0))))) (e_T 292 (e_T 290 (e_L 290 (0, ei_load 1 0 291, 0, 0)) (e_T 291 (e_L 291 (0, ei_push (0, 0) 292, 0, 0)) (e_L 292 (0, ei_ast elay true 293, 0, 0)))) (e_T 293 (e_L 293 (0, ei_inc 1 1 296, 0, 0)) (e_T 296 (e_L 296 (0, ei_goto 279, 0, 0)) (e_L 299 (1, e_nof, 0, 0)))))))
set_option maxRecDepth 20000 in
set_option maxHeartbeats 4000000 in
theorem te_267_163_ok : ∀ pc, e_EOq eft cls elay eI n_267 pc (te_267_163 pc) :=
  (e_Tok2
  (e_Tok2
  (e_Tok2
  (e_Tok2
  (e_Lok (e_st (I := eI) (er_istore_n (i := 1) (x_dk dn_267_1_2_ok 13 rfl) (by decide +kernel)) nx_stor))
  (e_Tok2
  (e_Lok (ld_iload_n_1 (x_dk dn_267_1_2_ok 14 rfl)))
  (e_Lok (ps_bipush_64 (x_dk dn_267_1_2_ok 15 rfl)))))
  (e_Tok2
  (e_Lok (e_st (I := eI) (er_icmpge (off := 16) (tg := 277) (x_dk dn_267_1_2_ok 16 rfl) (by decide)) nx_if2))
  (e_Tok2
  (e_Lok (ld_aload_n_0 (x_dk dn_267_1_2_ok 17 rfl)))
  (e_Lok (lk_12_140g ho_267 (x_dk dn_267_1_2_ok 18 rfl))))))
  (e_Tok2
  (e_Tok2
  (e_Lok (ld_iload_n_1 (x_dk dn_267_1_2_ok 19 rfl)))
  (e_Tok2
  (e_Lok (ps_iconst_m1 (x_dk dn_267_1_2_ok 20 rfl)))
  (e_Lok (sm_iastore (x_dk dn_267_1_2_ok 21 rfl)))))
  (e_Tok2
  (e_Lok (e_st (I := eI) (er_iinc (i := 1) (n := 1) (x_dk dn_267_1_2_ok 22 rfl) (by decide +kernel) (by decide)) nx_inc))
  (e_Tok2
  (e_Lok (e_st (I := eI) (er_goto (off := (-16)) (tg := 258) (x_dk dn_267_1_2_ok 23 rfl) (by decide)) nx_goto))
  (e_Lok (ps_iconst_0 (x_dk dn_267_1_2_ok 24 rfl)))))))
  (e_Tok2
  (e_Tok2
  (e_Tok2
  (e_Lok (e_st (I := eI) (er_istore_n (i := 1) (x_dk dn_267_1_3_ok 0 rfl) (by decide +kernel)) nx_stor))
  (e_Tok2
  (e_Lok (ld_iload_n_1 (x_dk dn_267_1_3_ok 1 rfl)))
  (e_Lok (ps_sipush_448 (x_dk dn_267_1_3_ok 2 rfl)))))
  (e_Tok2
  (e_Lok (e_st (I := eI) (er_icmpge (off := 16) (tg := 299) (x_dk dn_267_1_3_ok 3 rfl) (by decide)) nx_if2))
  (e_Tok2
  (e_Lok (ld_aload_n_0 (x_dk dn_267_1_3_ok 4 rfl)))
  (e_Lok (lk_12_83g ho_267 (x_dk dn_267_1_3_ok 5 rfl))))))
  (e_Tok2
  (e_Tok2
  (e_Lok (ld_iload_n_1 (x_dk dn_267_1_3_ok 6 rfl)))
  (e_Tok2
  (e_Lok (ps_iconst_0 (x_dk dn_267_1_3_ok 7 rfl)))
  (e_Lok (e_st (I := eI) (er_bastore (x_dk dn_267_1_3_ok 8 rfl)) nx_ast))))
  (e_Tok2
  (e_Lok (e_st (I := eI) (er_iinc (i := 1) (n := 1) (x_dk dn_267_1_3_ok 9 rfl) (by decide +kernel) (by decide)) nx_inc))
  (e_Tok2
  (e_Lok (e_st (I := eI) (er_goto (off := (-17)) (tg := 279) (x_dk dn_267_1_3_ok 10 rfl) (by decide)) nx_goto))
  (e_Lok (e_rt (I := eI) (k := 0) ⟨(x_dk dn_267_1_3_ok 11 rfl), rfl⟩)))))))
def te_267 : Nat → eE := (e_T 144 (e_T 74 (e_T 36 te_267_0 te_267_23) (e_T 109 te_267_46 te_267_69)) (e_T 223 (e_T 182 te_267_93 te_267_116) (e_T 256 te_267_140 te_267_163)))
theorem te_267_ok : ∀ pc, e_EOq eft cls elay eI n_267 pc (te_267 pc) := (e_Tok2 ((e_Tok2 ((e_Tok2 (te_267_0_ok) (te_267_23_ok))) ((e_Tok2 (te_267_46_ok) (te_267_69_ok))))) ((e_Tok2 ((e_Tok2 (te_267_93_ok) (te_267_116_ok))) ((e_Tok2 (te_267_140_ok) (te_267_163_ok))))))
end
