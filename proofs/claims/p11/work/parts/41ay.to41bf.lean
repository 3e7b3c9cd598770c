-- part 41ay
section
noncomputable section
theorem ho_340 : (xm_y n_340).cls = "RobotCellHouseModel" := rfl
def dn_340_0_0 : List (Nat × Instr × Nat) := [(0, .aload_n 0, 1), (1, .invokevirtual 572, 3), (4, .iconst (-1), 1), (5, .istore_n 1, 1), (6, .aload_n 0, 1), (7, .getfield 530, 3), (10, .ifCond .ne 31, 3), (13, .aload_n 0, 1), (14, .bipush 25, 2), (16, .invokevirtual 562, 3), (19, .ifCond .eq 22, 3), (22, .aload_n 0, 1), (23, .bipush 23, 2), (25, .iload_n 1, 1), (26, .invokevirtual 565, 3), (29, .istore_n 1, 1), (30, .aload_n 0, 1), (31, .invokevirtual 536, 3), (34, .aload_n 0, 1), (35, .invokevirtual 572, 3), (38, .goto (-32), 3), (41, .aload_n 0, 1), (42, .iload_n 1, 1), (43, .invokevirtual 569, 3), (46, .return_, 1)]
set_option maxRecDepth 20000 in
theorem dn_340_0_0_ok : dn_340_0_0.all (fun q => decide (decode (xm_b n_340) q.1 = .ok (q.2.1, q.2.2))) = true := xa_g_ok (by decide +kernel)
def te_340_0 : Nat → eE := (e_T 22 (e_T 7 (e_T 4 (e_T 0 (e_L 0 (0, ei_load 0 2 1, 0, 0)) (e_T 1 (e_L 1 (2, e_nof, 342, 1)) (e_L 4 (0, ei_push (0, (-1)) 5, 0, 0)))) (e_T 5 (e_L 5 (0, ei_stor 1 0 6, 0, 0)) (e_T 6 (e_L 6 (0, ei_load 0 2 7, 0, 0)) (e_L 7 (0, ei_getf eft elay 12 88 10, 0, 0))))) (e_T 14 (e_T 10 (e_L 10 (0, ei_if1 1 41 13, 0, 0)) (e_T 13 (e_L 13 (0, ei_load 0 2 14, 0, 0)) (e_L 14 (0, ei_push (0, 25) 16, 0, 0)))) (e_T 16 (e_L 16 (2, e_nof, 332, 2)) (e_T 19 (e_L 19 (0, ei_if1 0 41 22, 0, 0)) (e_L 22 (0, ei_load 0 2 23, 0, 0)))))) (e_T 31 (e_T 26 (e_T 23 (e_L 23 (0, ei_push (0, 23) 25, 0, 0)) (e_T 25 (e_L 25 (0, ei_load 1 0 26, 0, 0)) (e_L 26 (2, e_nof, 336, 3)))) (e_T 29 (e_L 29 (0, ei_stor 1 0 30, 0, 0)) (e_T 30 (e_L 30 (0, ei_load 0 2 31, 0, 0)) (e_L 31 (2, e_nof, 327, 1))))) (e_T 38 (e_T 34 (e_L 34 (0, ei_load 0 2 35, 0, 0)) (e_T 35 (e_L 35 (2, e_nof, 342, 1)) (e_L 38 (0, ei_goto 6, 0, 0)))) (e_T 42 (e_T 41 (e_L 41 (0, ei_load 0 2 42, 0, 0)) (e_L 42 (0, ei_load 1 0 43, 0, 0))) (e_T 43 (e_L 43 (2, e_nof, 341, 2)) (e_L 46 (1, e_nof, 0, 0)))))))
set_option maxRecDepth 20000 in
set_option maxHeartbeats 4000000 in
theorem te_340_0_ok : ∀ pc, e_EOq eft cls elay eI n_340 pc (te_340_0 pc) :=
  (e_Tok2
  (e_Tok2
  (e_Tok2
  (e_Tok2
  (e_Lok (ld_aload_n_0 (x_dk dn_340_0_0_ok 0 rfl)))
  (e_Tok2
  (e_Lok (lk_12_572 ho_340 (x_dk dn_340_0_0_ok 1 rfl)))
  (e_Lok (ps_iconst_m1 (x_dk dn_340_0_0_ok 2 rfl)))))
  (e_Tok2
  (e_Lok (e_st (I := eI) (er_istore_n (i := 1) (x_dk dn_340_0_0_ok 3 rfl) (by decide +kernel)) nx_stor))
  (e_Tok2
  (e_Lok (ld_aload_n_0 (x_dk dn_340_0_0_ok 4 rfl)))
  (e_Lok (lk_12_530g ho_340 (x_dk dn_340_0_0_ok 5 rfl))))))
  (e_Tok2
  (e_Tok2
  (e_Lok (e_st (I := eI) (er_ifne (off := 31) (tg := 41) (x_dk dn_340_0_0_ok 6 rfl) (by decide)) nx_if1))
  (e_Tok2
  (e_Lok (ld_aload_n_0 (x_dk dn_340_0_0_ok 7 rfl)))
  (e_Lok (ps_bipush_25 (x_dk dn_340_0_0_ok 8 rfl)))))
  (e_Tok2
  (e_Lok (lk_12_562 ho_340 (x_dk dn_340_0_0_ok 9 rfl)))
  (e_Tok2
  (e_Lok (e_st (I := eI) (er_ifeq (off := 22) (tg := 41) (x_dk dn_340_0_0_ok 10 rfl) (by decide)) nx_if1))
  (e_Lok (ld_aload_n_0 (x_dk dn_340_0_0_ok 11 rfl)))))))
  (e_Tok2
  (e_Tok2
  (e_Tok2
  (e_Lok (ps_bipush_23 (x_dk dn_340_0_0_ok 12 rfl)))
  (e_Tok2
  (e_Lok (ld_iload_n_1 (x_dk dn_340_0_0_ok 13 rfl)))
  (e_Lok (lk_12_565 ho_340 (x_dk dn_340_0_0_ok 14 rfl)))))
  (e_Tok2
  (e_Lok (e_st (I := eI) (er_istore_n (i := 1) (x_dk dn_340_0_0_ok 15 rfl) (by decide +kernel)) nx_stor))
  (e_Tok2
  (e_Lok (ld_aload_n_0 (x_dk dn_340_0_0_ok 16 rfl)))
  (e_Lok (lk_12_536 ho_340 (x_dk dn_340_0_0_ok 17 rfl))))))
  (e_Tok2
  (e_Tok2
  (e_Lok (ld_aload_n_0 (x_dk dn_340_0_0_ok 18 rfl)))
  (e_Tok2
  (e_Lok (lk_12_572 ho_340 (x_dk dn_340_0_0_ok 19 rfl)))
  (e_Lok (e_st (I := eI) (er_goto (off := (-32)) (tg := 6) (x_dk dn_340_0_0_ok 20 rfl) (by decide)) nx_goto))))
  (e_Tok2
  (e_Tok2
  (e_Lok (ld_aload_n_0 (x_dk dn_340_0_0_ok 21 rfl)))
  (e_Lok (ld_iload_n_1 (x_dk dn_340_0_0_ok 22 rfl))))
  (e_Tok2
  (e_Lok (lk_12_569 ho_340 (x_dk dn_340_0_0_ok 23 rfl)))
  (e_Lok (e_rt (I := eI) (k := 0) ⟨(x_dk dn_340_0_0_ok 24 rfl), rfl⟩)))))))
def te_340 : Nat → eE := te_340_0
theorem te_340_ok : ∀ pc, e_EOq eft cls elay eI n_340 pc (te_340 pc) := te_340_0_ok
theorem ho_341 : (xm_y n_341).cls = "RobotCellHouseModel" := rfl
def dn_341_0_0 : List (Nat × Instr × Nat) := [(0, .iload_n 1, 1), (1, .ifCond .ge 4, 3), (4, .return_, 1), (5, .aload_n 0, 1), (6, .bipush 24, 2), (8, .iconst 0, 1), (9, .invokevirtual 565, 3), (12, .pop, 1), (13, .iload_n 1, 1), (14, .istore_n 2, 1), (15, .iload_n 2, 1), (16, .ifCond .lt 24, 3), (19, .aload_n 0, 1), (20, .getfield 174, 3), (23, .ldc_w 545, 3), (26, .iload_n 2, 1), (27, .iadd, 1), (28, .iaload, 1), (29, .istore_n 3, 1), (30, .aload_n 0, 1), (31, .iload_n 2, 1), (32, .invokevirtual 575, 3), (35, .iload_n 3, 1), (36, .istore_n 2, 1), (37, .goto (-22), 3)]
set_option maxRecDepth 20000 in
theorem dn_341_0_0_ok : dn_341_0_0.all (fun q => decide (decode (xm_b n_341) q.1 = .ok (q.2.1, q.2.2))) = true := xa_g_ok (by decide +kernel)
def dn_341_0_1 : List (Nat × Instr × Nat) := [(40, .return_, 1)]
set_option maxRecDepth 20000 in
theorem dn_341_0_1_ok : dn_341_0_1.all (fun q => decide (decode (xm_b n_341) q.1 = .ok (q.2.1, q.2.2))) = true := xa_g_ok (by decide +kernel)
def te_341_0 : Nat → eE := (e_T 19 (e_T 8 (e_T 4 (e_T 0 (e_L 0 (0, ei_load 1 0 1, 0, 0)) (e_T 1 (e_L 1 (0, ei_if1 3 5 4, 0, 0)) (e_L 4 (1, e_nof, 0, 0)))) (e_T 5 (e_L 5 (0, ei_load 0 2 6, 0, 0)) (e_T 6 (e_L 6 (0, ei_push (0, 24) 8, 0, 0)) (e_L 8 (0, ei_push (0, 0) 9, 0, 0))))) (e_T 13 (e_T 9 (e_L 9 (2, e_nof, 336, 3)) (e_T 12 (e_L 12 (0, ei_stk ef_pop 13, 0, 0)) (e_L 13 (0, ei_load 1 0 14, 0, 0)))) (e_T 15 (e_T 14 (e_L 14 (0, ei_stor 2 0 15, 0, 0)) (e_L 15 (0, ei_load 2 0 16, 0, 0))) (e_T 16 (e_L 16 (0, ei_if1 2 40 19, 0, 0)) (e_L 19 (0, ei_load 0 2 20, 0, 0)))))) (e_T 29 (e_T 26 (e_T 20 (e_L 20 (0, ei_getf eft elay 12 66 23, 0, 0)) (e_T 23 (e_L 23 (0, ei_push (0, 40000) 26, 0, 0)) (e_L 26 (0, ei_load 2 0 27, 0, 0)))) (e_T 27 (e_L 27 (0, ei_bin eF_add 28, 0, 0)) (e_T 28 (e_L 28 (0, ei_ald elay false 29, 0, 0)) (e_L 29 (0, ei_stor 3 0 30, 0, 0))))) (e_T 32 (e_T 30 (e_L 30 (0, ei_load 0 2 31, 0, 0)) (e_T 31 (e_L 31 (0, ei_load 2 0 32, 0, 0)) (e_L 32 (2, e_nof, 337, 2)))) (e_T 36 (e_T 35 (e_L 35 (0, ei_load 3 0 36, 0, 0)) (e_L 36 (0, ei_stor 2 0 37, 0, 0))) (e_T 37 (e_L 37 (0, ei_goto 15, 0, 0)) (e_L 40 (1, e_nof, 0, 0)))))))
set_option maxRecDepth 20000 in
set_option maxHeartbeats 4000000 in
theorem te_341_0_ok : ∀ pc, e_EOq eft cls elay eI n_341 pc (te_341_0 pc) :=
  (e_Tok2
  (e_Tok2
  (e_Tok2
  (e_Tok2
  (e_Lok (ld_iload_n_1 (x_dk dn_341_0_0_ok 0 rfl)))
  (e_Tok2
  (e_Lok (e_st (I := eI) (er_ifge (off := 4) (tg := 5) (x_dk dn_341_0_0_ok 1 rfl) (by decide)) nx_if1))
  (e_Lok (e_rt (I := eI) (k := 0) ⟨(x_dk dn_341_0_0_ok 2 rfl), rfl⟩))))
  (e_Tok2
  (e_Lok (ld_aload_n_0 (x_dk dn_341_0_0_ok 3 rfl)))
  (e_Tok2
  (e_Lok (ps_bipush_24 (x_dk dn_341_0_0_ok 4 rfl)))
  (e_Lok (ps_iconst_0 (x_dk dn_341_0_0_ok 5 rfl))))))
  (e_Tok2
  (e_Tok2
  (e_Lok (lk_12_565 ho_341 (x_dk dn_341_0_0_ok 6 rfl)))
  (e_Tok2
  (e_Lok (e_st (I := eI) (er_pop (x_dk dn_341_0_0_ok 7 rfl)) (nx_stk bf_pop)))
  (e_Lok (ld_iload_n_1 (x_dk dn_341_0_0_ok 8 rfl)))))
  (e_Tok2
  (e_Tok2
  (e_Lok (e_st (I := eI) (er_istore_n (i := 2) (x_dk dn_341_0_0_ok 9 rfl) (by decide +kernel)) nx_stor))
  (e_Lok (ld_iload_n_2 (x_dk dn_341_0_0_ok 10 rfl))))
  (e_Tok2
  (e_Lok (e_st (I := eI) (er_iflt (off := 24) (tg := 40) (x_dk dn_341_0_0_ok 11 rfl) (by decide)) nx_if1))
  (e_Lok (ld_aload_n_0 (x_dk dn_341_0_0_ok 12 rfl)))))))
  (e_Tok2
  (e_Tok2
  (e_Tok2
  (e_Lok (lk_12_174g ho_341 (x_dk dn_341_0_0_ok 13 rfl)))
  (e_Tok2
  (e_Lok (e_st (I := eI) (er_ldcw (ix := 545) (z := 40000) (v := 40000) (x_dk dn_341_0_0_ok 14 rfl) (in_t12 (List.mem_of_getElem? (i := 40) rfl) rfl) (by decide)) (nx_push (Or.inl rfl))))
  (e_Lok (ld_iload_n_2 (x_dk dn_341_0_0_ok 15 rfl)))))
  (e_Tok2
  (e_Lok (sm_iadd (x_dk dn_341_0_0_ok 16 rfl)))
  (e_Tok2
  (e_Lok (sm_iaload (x_dk dn_341_0_0_ok 17 rfl)))
  (e_Lok (e_st (I := eI) (er_istore_n (i := 3) (x_dk dn_341_0_0_ok 18 rfl) (by decide +kernel)) nx_stor)))))
  (e_Tok2
  (e_Tok2
  (e_Lok (ld_aload_n_0 (x_dk dn_341_0_0_ok 19 rfl)))
  (e_Tok2
  (e_Lok (ld_iload_n_2 (x_dk dn_341_0_0_ok 20 rfl)))
  (e_Lok (lk_12_575 ho_341 (x_dk dn_341_0_0_ok 21 rfl)))))
  (e_Tok2
  (e_Tok2
  (e_Lok (ld_iload_n_3 (x_dk dn_341_0_0_ok 22 rfl)))
  (e_Lok (e_st (I := eI) (er_istore_n (i := 2) (x_dk dn_341_0_0_ok 23 rfl) (by decide +kernel)) nx_stor)))
  (e_Tok2
  (e_Lok (e_st (I := eI) (er_goto (off := (-22)) (tg := 15) (x_dk dn_341_0_0_ok 24 rfl) (by decide)) nx_goto))
  (e_Lok (e_rt (I := eI) (k := 0) ⟨(x_dk dn_341_0_1_ok 0 rfl), rfl⟩)))))))
def te_341 : Nat → eE := te_341_0
theorem te_341_ok : ∀ pc, e_EOq eft cls elay eI n_341 pc (te_341 pc) := te_341_0_ok
theorem ho_342 : (xm_y n_342).cls = "RobotCellHouseModel" := rfl
def dn_342_0_0 : List (Nat × Instr × Nat) := [(0, .aload_n 0, 1), (1, .getfield 530, 3), (4, .ifCond .ne 43, 3), (7, .aload_n 0, 1), (8, .bipush 26, 2), (10, .invokevirtual 562, 3), (13, .ifCond .eq 34, 3), (16, .aload_n 0, 1), (17, .invokevirtual 578, 3), (20, .aload_n 0, 1), (21, .invokevirtual 536, 3), (24, .aload_n 0, 1), (25, .invokevirtual 572, 3), (28, .aload_n 0, 1), (29, .dup, 1), (30, .getfield 542, 3), (33, .iconst 1, 1), (34, .isub, 1), (35, .putfield 542, 3), (38, .aload_n 0, 1), (39, .bipush 21, 2), (41, .iconst 0, 1), (42, .invokevirtual 565, 3), (45, .pop, 1), (46, .return_, 1)]
set_option maxRecDepth 20000 in
theorem dn_342_0_0_ok : dn_342_0_0.all (fun q => decide (decode (xm_b n_342) q.1 = .ok (q.2.1, q.2.2))) = true := xa_g_ok (by decide +kernel)
def dn_342_0_1 : List (Nat × Instr × Nat) := [(47, .aload_n 0, 1), (48, .invokevirtual 580, 3), (51, .aload_n 0, 1), (52, .getfield 530, 3), (55, .ifCond .ne 11, 3), (58, .aload_n 0, 1), (59, .getfield 497, 3), (62, .iconst 3, 1), (63, .if_icmp .eq 7, 3), (66, .iconst 0, 1), (67, .goto 88, 3), (70, .aload_n 0, 1), (71, .getfield 494, 3), (74, .bipush 61, 2), (76, .if_icmp .ne 8, 3), (79, .bipush 15, 2), (81, .goto 74, 3), (84, .aload_n 0, 1), (85, .getfield 494, 3), (88, .bipush 110, 2), (90, .if_icmp .ne 8, 3), (93, .bipush 16, 2), (95, .goto 60, 3), (98, .aload_n 0, 1), (99, .getfield 494, 3)]
set_option maxRecDepth 20000 in
theorem dn_342_0_1_ok : dn_342_0_1.all (fun q => decide (decode (xm_b n_342) q.1 = .ok (q.2.1, q.2.2))) = true := xa_g_ok (by decide +kernel)
def dn_342_0_2 : List (Nat × Instr × Nat) := [(102, .bipush 60, 2), (104, .if_icmp .ne 8, 3), (107, .bipush 17, 2), (109, .goto 46, 3), (112, .aload_n 0, 1), (113, .getfield 494, 3), (116, .bipush 108, 2), (118, .if_icmp .ne 8, 3), (121, .bipush 18, 2), (123, .goto 32, 3), (126, .aload_n 0, 1), (127, .getfield 494, 3), (130, .bipush 62, 2), (132, .if_icmp .ne 8, 3), (135, .bipush 19, 2), (137, .goto 18, 3), (140, .aload_n 0, 1), (141, .getfield 494, 3), (144, .bipush 103, 2), (146, .if_icmp .ne 8, 3), (149, .bipush 20, 2), (151, .goto 4, 3), (154, .iconst 0, 1), (155, .istore_n 1, 1), (156, .iload_n 1, 1)]
set_option maxRecDepth 20000 in
theorem dn_342_0_2_ok : dn_342_0_2.all (fun q => decide (decode (xm_b n_342) q.1 = .ok (q.2.1, q.2.2))) = true := xa_g_ok (by decide +kernel)
def dn_342_0_3 : List (Nat × Instr × Nat) := [(157, .ifCond .eq 18, 3), (160, .aload_n 0, 1), (161, .invokevirtual 536, 3), (164, .aload_n 0, 1), (165, .invokevirtual 580, 3), (168, .aload_n 0, 1), (169, .iload_n 1, 1), (170, .iconst 0, 1), (171, .invokevirtual 565, 3), (174, .pop, 1), (175, .return_, 1)]
set_option maxRecDepth 20000 in
theorem dn_342_0_3_ok : dn_342_0_3.all (fun q => decide (decode (xm_b n_342) q.1 = .ok (q.2.1, q.2.2))) = true := xa_g_ok (by decide +kernel)
def te_342_0 : Nat → eE := (e_T 20 (e_T 8 (e_T 1 (e_T 0 (e_L 0 (0, ei_load 0 2 1, 0, 0)) (e_L 1 (0, ei_getf eft elay 12 88 4, 0, 0))) (e_T 4 (e_L 4 (0, ei_if1 1 47 7, 0, 0)) (e_T 7 (e_L 7 (0, ei_load 0 2 8, 0, 0)) (e_L 8 (0, ei_push (0, 26) 10, 0, 0))))) (e_T 13 (e_T 10 (e_L 10 (2, e_nof, 332, 2)) (e_L 13 (0, ei_if1 0 47 16, 0, 0))) (e_T 16 (e_L 16 (0, ei_load 0 2 17, 0, 0)) (e_T 17 (e_L 17 (2, e_nof, 335, 1)) (e_L 20 (0, ei_load 0 2 21, 0, 0)))))) (e_T 29 (e_T 24 (e_T 21 (e_L 21 (2, e_nof, 327, 1)) (e_L 24 (0, ei_load 0 2 25, 0, 0))) (e_T 25 (e_L 25 (2, e_nof, 342, 1)) (e_T 28 (e_L 28 (0, ei_load 0 2 29, 0, 0)) (e_L 29 (0, ei_stk ef_dup 30, 0, 0))))) (e_T 34 (e_T 30 (e_L 30 (0, ei_getf eft elay 12 83 33, 0, 0)) (e_T 33 (e_L 33 (0, ei_push (0, 1) 34, 0, 0)) (e_L 34 (0, ei_bin eF_sub 35, 0, 0)))) (e_T 35 (e_L 35 (0, ei_putf eft elay 12 83 0 38, 0, 0)) (e_T 38 (e_L 38 (0, ei_load 0 2 39, 0, 0)) (e_L 39 (0, ei_push (0, 21) 41, 0, 0)))))))
set_option maxRecDepth 20000 in
set_option maxHeartbeats 4000000 in
theorem te_342_0_ok : ∀ pc, e_EOq eft cls elay eI n_342 pc (te_342_0 pc) :=
  (e_Tok2
  (e_Tok2
  (e_Tok2
  (e_Tok2
  (e_Lok (ld_aload_n_0 (x_dk dn_342_0_0_ok 0 rfl)))
  (e_Lok (lk_12_530g ho_342 (x_dk dn_342_0_0_ok 1 rfl))))
  (e_Tok2
  (e_Lok (e_st (I := eI) (er_ifne (off := 43) (tg := 47) (x_dk dn_342_0_0_ok 2 rfl) (by decide)) nx_if1))
  (e_Tok2
  (e_Lok (ld_aload_n_0 (x_dk dn_342_0_0_ok 3 rfl)))
  (e_Lok (ps_bipush_26 (x_dk dn_342_0_0_ok 4 rfl))))))
  (e_Tok2
  (e_Tok2
  (e_Lok (lk_12_562 ho_342 (x_dk dn_342_0_0_ok 5 rfl)))
  (e_Lok (e_st (I := eI) (er_ifeq (off := 34) (tg := 47) (x_dk dn_342_0_0_ok 6 rfl) (by decide)) nx_if1)))
  (e_Tok2
  (e_Lok (ld_aload_n_0 (x_dk dn_342_0_0_ok 7 rfl)))
  (e_Tok2
  (e_Lok (lk_12_578 ho_342 (x_dk dn_342_0_0_ok 8 rfl)))
  (e_Lok (ld_aload_n_0 (x_dk dn_342_0_0_ok 9 rfl)))))))
  (e_Tok2
  (e_Tok2
  (e_Tok2
  (e_Lok (lk_12_536 ho_342 (x_dk dn_342_0_0_ok 10 rfl)))
  (e_Lok (ld_aload_n_0 (x_dk dn_342_0_0_ok 11 rfl))))
  (e_Tok2
  (e_Lok (lk_12_572 ho_342 (x_dk dn_342_0_0_ok 12 rfl)))
  (e_Tok2
  (e_Lok (ld_aload_n_0 (x_dk dn_342_0_0_ok 13 rfl)))
  (e_Lok (e_st (I := eI) (er_dup (x_dk dn_342_0_0_ok 14 rfl)) (nx_stk bf_dup))))))
  (e_Tok2
  (e_Tok2
  (e_Lok (lk_12_542g ho_342 (x_dk dn_342_0_0_ok 15 rfl)))
  (e_Tok2
  (e_Lok (ps_iconst_1 (x_dk dn_342_0_0_ok 16 rfl)))
  (e_Lok (sm_isub (x_dk dn_342_0_0_ok 17 rfl)))))
  (e_Tok2
  (e_Lok (lk_12_542p ho_342 (x_dk dn_342_0_0_ok 18 rfl)))
  (e_Tok2
  (e_Lok (ld_aload_n_0 (x_dk dn_342_0_0_ok 19 rfl)))
  (e_Lok (ps_bipush_21 (x_dk dn_342_0_0_ok 20 rfl))))))))
def te_342_21 : Nat → eE := (e_T 59 (e_T 47 (e_T 42 (e_T 41 (e_L 41 (0, ei_push (0, 0) 42, 0, 0)) (e_L 42 (2, e_nof, 336, 3))) (e_T 45 (e_L 45 (0, ei_stk ef_pop 46, 0, 0)) (e_T 46 (e_L 46 (1, e_nof, 0, 0)) (e_L 47 (0, ei_load 0 2 48, 0, 0))))) (e_T 52 (e_T 48 (e_L 48 (2, e_nof, 343, 1)) (e_T 51 (e_L 51 (0, ei_load 0 2 52, 0, 0)) (e_L 52 (0, ei_getf eft elay 12 88 55, 0, 0)))) (e_T 55 (e_L 55 (0, ei_if1 1 66 58, 0, 0)) (e_T 58 (e_L 58 (0, ei_load 0 2 59, 0, 0)) (e_L 59 (0, ei_getf eft elay 12 84 62, 0, 0)))))) (e_T 70 (e_T 63 (e_T 62 (e_L 62 (0, ei_push (0, 3) 63, 0, 0)) (e_L 63 (0, ei_if2 0 70 66, 0, 0))) (e_T 66 (e_L 66 (0, ei_push (0, 0) 67, 0, 0)) (e_T 67 (e_L 67 (0, ei_goto 155, 0, 0)) (e_L 70 (0, ei_load 0 2 71, 0, 0))))) (e_T 76 (e_T 71 (e_L 71 (0, ei_getf eft elay 12 85 74, 0, 0)) (e_T 74 (e_L 74 (0, ei_push (0, 61) 76, 0, 0)) (e_L 76 (0, ei_if2 1 84 79, 0, 0)))) (e_T 79 (e_L 79 (0, ei_push (0, 15) 81, 0, 0)) (e_T 81 (e_L 81 (0, ei_goto 155, 0, 0)) (e_L 84 (0, ei_load 0 2 85, 0, 0)))))))
set_option maxRecDepth 20000 in
set_option maxHeartbeats 4000000 in
theorem te_342_21_ok : ∀ pc, e_EOq eft cls elay eI n_342 pc (te_342_21 pc) :=
  (e_Tok2
  (e_Tok2
  (e_Tok2
  (e_Tok2
  (e_Lok (ps_iconst_0 (x_dk dn_342_0_0_ok 21 rfl)))
  (e_Lok (lk_12_565 ho_342 (x_dk dn_342_0_0_ok 22 rfl))))
  (e_Tok2
  (e_Lok (e_st (I := eI) (er_pop (x_dk dn_342_0_0_ok 23 rfl)) (nx_stk bf_pop)))
  (e_Tok2
  (e_Lok (e_rt (I := eI) (k := 0) ⟨(x_dk dn_342_0_0_ok 24 rfl), rfl⟩))
  (e_Lok (ld_aload_n_0 (x_dk dn_342_0_1_ok 0 rfl))))))
  (e_Tok2
  (e_Tok2
  (e_Lok (lk_12_580 ho_342 (x_dk dn_342_0_1_ok 1 rfl)))
  (e_Tok2
  (e_Lok (ld_aload_n_0 (x_dk dn_342_0_1_ok 2 rfl)))
  (e_Lok (lk_12_530g ho_342 (x_dk dn_342_0_1_ok 3 rfl)))))
  (e_Tok2
  (e_Lok (e_st (I := eI) (er_ifne (off := 11) (tg := 66) (x_dk dn_342_0_1_ok 4 rfl) (by decide)) nx_if1))
  (e_Tok2
  (e_Lok (ld_aload_n_0 (x_dk dn_342_0_1_ok 5 rfl)))
  (e_Lok (lk_12_497g ho_342 (x_dk dn_342_0_1_ok 6 rfl)))))))
  (e_Tok2
  (e_Tok2
  (e_Tok2
  (e_Lok (ps_iconst_3 (x_dk dn_342_0_1_ok 7 rfl)))
  (e_Lok (e_st (I := eI) (er_icmpeq (off := 7) (tg := 70) (x_dk dn_342_0_1_ok 8 rfl) (by decide)) nx_if2)))
  (e_Tok2
  (e_Lok (ps_iconst_0 (x_dk dn_342_0_1_ok 9 rfl)))
  (e_Tok2
  (e_Lok (e_st (I := eI) (er_goto (off := 88) (tg := 155) (x_dk dn_342_0_1_ok 10 rfl) (by decide)) nx_goto))
  (e_Lok (ld_aload_n_0 (x_dk dn_342_0_1_ok 11 rfl))))))
  (e_Tok2
  (e_Tok2
  (e_Lok (lk_12_494g ho_342 (x_dk dn_342_0_1_ok 12 rfl)))
  (e_Tok2
  (e_Lok (ps_bipush_61 (x_dk dn_342_0_1_ok 13 rfl)))
  (e_Lok (e_st (I := eI) (er_icmpne (off := 8) (tg := 84) (x_dk dn_342_0_1_ok 14 rfl) (by decide)) nx_if2))))
  (e_Tok2
  (e_Lok (ps_bipush_15 (x_dk dn_342_0_1_ok 15 rfl)))
  (e_Tok2
  (e_Lok (e_st (I := eI) (er_goto (off := 74) (tg := 155) (x_dk dn_342_0_1_ok 16 rfl) (by decide)) nx_goto))
  (e_Lok (ld_aload_n_0 (x_dk dn_342_0_1_ok 17 rfl))))))))
def te_342_43 : Nat → eE := (e_T 107 (e_T 95 (e_T 88 (e_T 85 (e_L 85 (0, ei_getf eft elay 12 85 88, 0, 0)) (e_L 88 (0, ei_push (0, 110) 90, 0, 0))) (e_T 90 (e_L 90 (0, ei_if2 1 98 93, 0, 0)) (e_T 93 (e_L 93 (0, ei_push (0, 16) 95, 0, 0)) (e_L 95 (0, ei_goto 155, 0, 0))))) (e_T 99 (e_T 98 (e_L 98 (0, ei_load 0 2 99, 0, 0)) (e_L 99 (0, ei_getf eft elay 12 85 102, 0, 0))) (e_T 102 (e_L 102 (0, ei_push (0, 60) 104, 0, 0)) (e_T 104 (e_L 104 (0, ei_if2 1 112 107, 0, 0)) (e_L 107 (0, ei_push (0, 17) 109, 0, 0)))))) (e_T 118 (e_T 112 (e_T 109 (e_L 109 (0, ei_goto 155, 0, 0)) (e_L 112 (0, ei_load 0 2 113, 0, 0))) (e_T 113 (e_L 113 (0, ei_getf eft elay 12 85 116, 0, 0)) (e_T 116 (e_L 116 (0, ei_push (0, 108) 118, 0, 0)) (e_L 118 (0, ei_if2 1 126 121, 0, 0))))) (e_T 126 (e_T 121 (e_L 121 (0, ei_push (0, 18) 123, 0, 0)) (e_T 123 (e_L 123 (0, ei_goto 155, 0, 0)) (e_L 126 (0, ei_load 0 2 127, 0, 0)))) (e_T 127 (e_L 127 (0, ei_getf eft elay 12 85 130, 0, 0)) (e_T 130 (e_L 130 (0, ei_push (0, 62) 132, 0, 0)) (e_L 132 (0, ei_if2 1 140 135, 0, 0)))))))
set_option maxRecDepth 20000 in
set_option maxHeartbeats 4000000 in
theorem te_342_43_ok : ∀ pc, e_EOq eft cls elay eI n_342 pc (te_342_43 pc) :=
  (e_Tok2
  (e_Tok2
  (e_Tok2
  (e_Tok2
  (e_Lok (lk_12_494g ho_342 (x_dk dn_342_0_1_ok 18 rfl)))
  (e_Lok (ps_bipush_110 (x_dk dn_342_0_1_ok 19 rfl))))
  (e_Tok2
  (e_Lok (e_st (I := eI) (er_icmpne (off := 8) (tg := 98) (x_dk dn_342_0_1_ok 20 rfl) (by decide)) nx_if2))
  (e_Tok2
  (e_Lok (ps_bipush_16 (x_dk dn_342_0_1_ok 21 rfl)))
  (e_Lok (e_st (I := eI) (er_goto (off := 60) (tg := 155) (x_dk dn_342_0_1_ok 22 rfl) (by decide)) nx_goto)))))
  (e_Tok2
  (e_Tok2
  (e_Lok (ld_aload_n_0 (x_dk dn_342_0_1_ok 23 rfl)))
  (e_Lok (lk_12_494g ho_342 (x_dk dn_342_0_1_ok 24 rfl))))
  (e_Tok2
  (e_Lok (ps_bipush_60 (x_dk dn_342_0_2_ok 0 rfl)))
  (e_Tok2
  (e_Lok (e_st (I := eI) (er_icmpne (off := 8) (tg := 112) (x_dk dn_342_0_2_ok 1 rfl) (by decide)) nx_if2))
  (e_Lok (ps_bipush_17 (x_dk dn_342_0_2_ok 2 rfl)))))))
  (e_Tok2
  (e_Tok2
  (e_Tok2
  (e_Lok (e_st (I := eI) (er_goto (off := 46) (tg := 155) (x_dk dn_342_0_2_ok 3 rfl) (by decide)) nx_goto))
  (e_Lok (ld_aload_n_0 (x_dk dn_342_0_2_ok 4 rfl))))
  (e_Tok2
  (e_Lok (lk_12_494g ho_342 (x_dk dn_342_0_2_ok 5 rfl)))
  (e_Tok2
  (e_Lok (ps_bipush_108 (x_dk dn_342_0_2_ok 6 rfl)))
  (e_Lok (e_st (I := eI) (er_icmpne (off := 8) (tg := 126) (x_dk dn_342_0_2_ok 7 rfl) (by decide)) nx_if2)))))
  (e_Tok2
  (e_Tok2
  (e_Lok (ps_bipush_18 (x_dk dn_342_0_2_ok 8 rfl)))
  (e_Tok2
  (e_Lok (e_st (I := eI) (er_goto (off := 32) (tg := 155) (x_dk dn_342_0_2_ok 9 rfl) (by decide)) nx_goto))
  (e_Lok (ld_aload_n_0 (x_dk dn_342_0_2_ok 10 rfl)))))
  (e_Tok2
  (e_Lok (lk_12_494g ho_342 (x_dk dn_342_0_2_ok 11 rfl)))
  (e_Tok2
  (e_Lok (ps_bipush_62 (x_dk dn_342_0_2_ok 12 rfl)))
  (e_Lok (e_st (I := eI) (er_icmpne (off := 8) (tg := 140) (x_dk dn_342_0_2_ok 13 rfl) (by decide)) nx_if2)))))))
def te_342_64 : Nat → eE := (e_T 156 (e_T 144 (e_T 137 (e_T 135 (e_L 135 (0, ei_push (0, 19) 137, 0, 0)) (e_L 137 (0, ei_goto 155, 0, 0))) (e_T 140 (e_L 140 (0, ei_load 0 2 141, 0, 0)) (e_T 141 (e_L 141 (0, ei_getf eft elay 12 85 144, 0, 0)) (e_L 144 (0, ei_push (0, 103) 146, 0, 0))))) (e_T 151 (e_T 146 (e_L 146 (0, ei_if2 1 154 149, 0, 0)) (e_T 149 (e_L 149 (0, ei_push (0, 20) 151, 0, 0)) (e_L 151 (0, ei_goto 155, 0, 0)))) (e_T 154 (e_L 154 (0, ei_push (0, 0) 155, 0, 0)) (e_T 155 (e_L 155 (0, ei_stor 1 0 156, 0, 0)) (e_L 156 (0, ei_load 1 0 157, 0, 0)))))) (e_T 165 (e_T 160 (e_T 157 (e_L 157 (0, ei_if1 0 175 160, 0, 0)) (e_L 160 (0, ei_load 0 2 161, 0, 0))) (e_T 161 (e_L 161 (2, e_nof, 327, 1)) (e_T 164 (e_L 164 (0, ei_load 0 2 165, 0, 0)) (e_L 165 (2, e_nof, 343, 1))))) (e_T 170 (e_T 168 (e_L 168 (0, ei_load 0 2 169, 0, 0)) (e_T 169 (e_L 169 (0, ei_load 1 0 170, 0, 0)) (e_L 170 (0, ei_push (0, 0) 171, 0, 0)))) (e_T 171 (e_L 171 (2, e_nof, 336, 3)) (e_T 174 (e_L 174 (0, ei_stk ef_pop 175, 0, 0)) (e_L 175 (1, e_nof, 0, 0)))))))
set_option maxRecDepth 20000 in
set_option maxHeartbeats 4000000 in
theorem te_342_64_ok : ∀ pc, e_EOq eft cls elay eI n_342 pc (te_342_64 pc) :=
  (e_Tok2
  (e_Tok2
  (e_Tok2
  (e_Tok2
  (e_Lok (ps_bipush_19 (x_dk dn_342_0_2_ok 14 rfl)))
  (e_Lok (e_st (I := eI) (er_goto (off := 18) (tg := 155) (x_dk dn_342_0_2_ok 15 rfl) (by decide)) nx_goto)))
  (e_Tok2
  (e_Lok (ld_aload_n_0 (x_dk dn_342_0_2_ok 16 rfl)))
  (e_Tok2
  (e_Lok (lk_12_494g ho_342 (x_dk dn_342_0_2_ok 17 rfl)))
  (e_Lok (ps_bipush_103 (x_dk dn_342_0_2_ok 18 rfl))))))
  (e_Tok2
  (e_Tok2
  (e_Lok (e_st (I := eI) (er_icmpne (off := 8) (tg := 154) (x_dk dn_342_0_2_ok 19 rfl) (by decide)) nx_if2))
  (e_Tok2
  (e_Lok (ps_bipush_20 (x_dk dn_342_0_2_ok 20 rfl)))
  (e_Lok (e_st (I := eI) (er_goto (off := 4) (tg := 155) (x_dk dn_342_0_2_ok 21 rfl) (by decide)) nx_goto))))
  (e_Tok2
  (e_Lok (ps_iconst_0 (x_dk dn_342_0_2_ok 22 rfl)))
  (e_Tok2
  (e_Lok (e_st (I := eI) (er_istore_n (i := 1) (x_dk dn_342_0_2_ok 23 rfl) (by decide +kernel)) nx_stor))
  (e_Lok (ld_iload_n_1 (x_dk dn_342_0_2_ok 24 rfl)))))))
  (e_Tok2
  (e_Tok2
  (e_Tok2
  (e_Lok (e_st (I := eI) (er_ifeq (off := 18) (tg := 175) (x_dk dn_342_0_3_ok 0 rfl) (by decide)) nx_if1))
  (e_Lok (ld_aload_n_0 (x_dk dn_342_0_3_ok 1 rfl))))
  (e_Tok2
  (e_Lok (lk_12_536 ho_342 (x_dk dn_342_0_3_ok 2 rfl)))
  (e_Tok2
  (e_Lok (ld_aload_n_0 (x_dk dn_342_0_3_ok 3 rfl)))
  (e_Lok (lk_12_580 ho_342 (x_dk dn_342_0_3_ok 4 rfl))))))
  (e_Tok2
  (e_Tok2
  (e_Lok (ld_aload_n_0 (x_dk dn_342_0_3_ok 5 rfl)))
  (e_Tok2
  (e_Lok (ld_iload_n_1 (x_dk dn_342_0_3_ok 6 rfl)))
  (e_Lok (ps_iconst_0 (x_dk dn_342_0_3_ok 7 rfl)))))
  (e_Tok2
  (e_Lok (lk_12_565 ho_342 (x_dk dn_342_0_3_ok 8 rfl)))
  (e_Tok2
  (e_Lok (e_st (I := eI) (er_pop (x_dk dn_342_0_3_ok 9 rfl)) (nx_stk bf_pop)))
  (e_Lok (e_rt (I := eI) (k := 0) ⟨(x_dk dn_342_0_3_ok 10 rfl), rfl⟩)))))))
def te_342 : Nat → eE := (e_T 84 (e_T 39 te_342_0 te_342_21) (e_T 132 te_342_43 te_342_64))
theorem te_342_ok : ∀ pc, e_EOq eft cls elay eI n_342 pc (te_342 pc) := (e_Tok2 ((e_Tok2 (te_342_0_ok) (te_342_21_ok))) ((e_Tok2 (te_342_43_ok) (te_342_64_ok))))
theorem ho_343 : (xm_y n_343).cls = "RobotCellHouseModel" := rfl
def dn_343_0_0 : List (Nat × Instr × Nat) := [(0, .aload_n 0, 1), (1, .invokevirtual 583, 3), (4, .aload_n 0, 1), (5, .getfield 530, 3), (8, .ifCond .ne 56, 3), (11, .aload_n 0, 1), (12, .bipush 43, 2), (14, .invokevirtual 586, 3), (17, .ifCond .ne 12, 3), (20, .aload_n 0, 1), (21, .bipush 45, 2), (23, .invokevirtual 586, 3), (26, .ifCond .eq 38, 3), (29, .aload_n 0, 1), (30, .getfield 494, 3), (33, .bipush 43, 2), (35, .if_icmp .ne 8, 3), (38, .bipush 10, 2), (40, .goto 5, 3), (43, .bipush 11, 2), (45, .istore_n 1, 1), (46, .aload_n 0, 1), (47, .invokevirtual 536, 3), (50, .aload_n 0, 1), (51, .invokevirtual 583, 3)]
set_option maxRecDepth 20000 in
theorem dn_343_0_0_ok : dn_343_0_0.all (fun q => decide (decode (xm_b n_343) q.1 = .ok (q.2.1, q.2.2))) = true := xa_g_ok (by decide +kernel)
def dn_343_0_1 : List (Nat × Instr × Nat) := [(54, .aload_n 0, 1), (55, .iload_n 1, 1), (56, .iconst 0, 1), (57, .invokevirtual 565, 3), (60, .pop, 1), (61, .goto (-57), 3), (64, .return_, 1)]
set_option maxRecDepth 20000 in
theorem dn_343_0_1_ok : dn_343_0_1.all (fun q => decide (decode (xm_b n_343) q.1 = .ok (q.2.1, q.2.2))) = true := xa_g_ok (by decide +kernel)
def te_343_0 : Nat → eE := (e_T 33 (e_T 14 (e_T 5 (e_T 1 (e_T 0 (e_L 0 (0, ei_load 0 2 1, 0, 0)) (e_L 1 (2, e_nof, 344, 1))) (e_T 4 (e_L 4 (0, ei_load 0 2 5, 0, 0)) (e_L 5 (0, ei_getf eft elay 12 88 8, 0, 0)))) (e_T 11 (e_T 8 (e_L 8 (0, ei_if1 1 64 11, 0, 0)) (e_L 11 (0, ei_load 0 2 12, 0, 0))) (e_T 12 (e_L 12 (0, ei_push (0, 43) 14, 0, 0)) (e_L 14 (2, e_nof, 331, 2))))) (e_T 23 (e_T 20 (e_T 17 (e_L 17 (0, ei_if1 1 29 20, 0, 0)) (e_L 20 (0, ei_load 0 2 21, 0, 0))) (e_T 21 (e_L 21 (0, ei_push (0, 45) 23, 0, 0)) (e_L 23 (2, e_nof, 331, 2)))) (e_T 29 (e_T 26 (e_L 26 (0, ei_if1 0 64 29, 0, 0)) (e_L 29 (0, ei_load 0 2 30, 0, 0))) (e_T 30 (e_L 30 (0, ei_getf eft elay 12 85 33, 0, 0)) (e_L 33 (0, ei_push (0, 43) 35, 0, 0)))))) (e_T 50 (e_T 43 (e_T 38 (e_T 35 (e_L 35 (0, ei_if2 1 43 38, 0, 0)) (e_L 38 (0, ei_push (0, 10) 40, 0, 0))) (e_T 40 (e_L 40 (0, ei_goto 45, 0, 0)) (e_L 43 (0, ei_push (0, 11) 45, 0, 0)))) (e_T 46 (e_T 45 (e_L 45 (0, ei_stor 1 0 46, 0, 0)) (e_L 46 (0, ei_load 0 2 47, 0, 0))) (e_T 47 (e_L 47 (2, e_nof, 327, 1)) (e_L 50 (0, ei_load 0 2 51, 0, 0))))) (e_T 56 (e_T 54 (e_T 51 (e_L 51 (2, e_nof, 344, 1)) (e_L 54 (0, ei_load 0 2 55, 0, 0))) (e_T 55 (e_L 55 (0, ei_load 1 0 56, 0, 0)) (e_L 56 (0, ei_push (0, 0) 57, 0, 0)))) (e_T 60 (e_T 57 (e_L 57 (2, e_nof, 336, 3)) (e_L 60 (0, ei_stk ef_pop 61, 0, 0))) (e_T 61 (e_L 61 (0, ei_goto 4, 0, 0)) (e_L 64 (1, e_nof, 0, 0)))))))
set_option maxRecDepth 20000 in
set_option maxHeartbeats 4000000 in
theorem te_343_0_ok : ∀ pc, e_EOq eft cls elay eI n_343 pc (te_343_0 pc) :=
  (e_Tok2
  (e_Tok2
  (e_Tok2
  (e_Tok2
  (e_Tok2
  (e_Lok (ld_aload_n_0 (x_dk dn_343_0_0_ok 0 rfl)))
  (e_Lok (lk_12_583 ho_343 (x_dk dn_343_0_0_ok 1 rfl))))
  (e_Tok2
  (e_Lok (ld_aload_n_0 (x_dk dn_343_0_0_ok 2 rfl)))
  (e_Lok (lk_12_530g ho_343 (x_dk dn_343_0_0_ok 3 rfl)))))
  (e_Tok2
  (e_Tok2
  (e_Lok (e_st (I := eI) (er_ifne (off := 56) (tg := 64) (x_dk dn_343_0_0_ok 4 rfl) (by decide)) nx_if1))
  (e_Lok (ld_aload_n_0 (x_dk dn_343_0_0_ok 5 rfl))))
  (e_Tok2
  (e_Lok (ps_bipush_43 (x_dk dn_343_0_0_ok 6 rfl)))
  (e_Lok (lk_12_586 ho_343 (x_dk dn_343_0_0_ok 7 rfl))))))
  (e_Tok2
  (e_Tok2
  (e_Tok2
  (e_Lok (e_st (I := eI) (er_ifne (off := 12) (tg := 29) (x_dk dn_343_0_0_ok 8 rfl) (by decide)) nx_if1))
  (e_Lok (ld_aload_n_0 (x_dk dn_343_0_0_ok 9 rfl))))
  (e_Tok2
  (e_Lok (ps_bipush_45 (x_dk dn_343_0_0_ok 10 rfl)))
  (e_Lok (lk_12_586 ho_343 (x_dk dn_343_0_0_ok 11 rfl)))))
  (e_Tok2
  (e_Tok2
  (e_Lok (e_st (I := eI) (er_ifeq (off := 38) (tg := 64) (x_dk dn_343_0_0_ok 12 rfl) (by decide)) nx_if1))
  (e_Lok (ld_aload_n_0 (x_dk dn_343_0_0_ok 13 rfl))))
  (e_Tok2
  (e_Lok (lk_12_494g ho_343 (x_dk dn_343_0_0_ok 14 rfl)))
  (e_Lok (ps_bipush_43 (x_dk dn_343_0_0_ok 15 rfl)))))))
  (e_Tok2
  (e_Tok2
  (e_Tok2
  (e_Tok2
  (e_Lok (e_st (I := eI) (er_icmpne (off := 8) (tg := 43) (x_dk dn_343_0_0_ok 16 rfl) (by decide)) nx_if2))
  (e_Lok (ps_bipush_10 (x_dk dn_343_0_0_ok 17 rfl))))
  (e_Tok2
  (e_Lok (e_st (I := eI) (er_goto (off := 5) (tg := 45) (x_dk dn_343_0_0_ok 18 rfl) (by decide)) nx_goto))
  (e_Lok (ps_bipush_11 (x_dk dn_343_0_0_ok 19 rfl)))))
  (e_Tok2
  (e_Tok2
  (e_Lok (e_st (I := eI) (er_istore_n (i := 1) (x_dk dn_343_0_0_ok 20 rfl) (by decide +kernel)) nx_stor))
  (e_Lok (ld_aload_n_0 (x_dk dn_343_0_0_ok 21 rfl))))
  (e_Tok2
  (e_Lok (lk_12_536 ho_343 (x_dk dn_343_0_0_ok 22 rfl)))
  (e_Lok (ld_aload_n_0 (x_dk dn_343_0_0_ok 23 rfl))))))
  (e_Tok2
  (e_Tok2
  (e_Tok2
  (e_Lok (lk_12_583 ho_343 (x_dk dn_343_0_0_ok 24 rfl)))
  (e_Lok (ld_aload_n_0 (x_dk dn_343_0_1_ok 0 rfl))))
  (e_Tok2
  (e_Lok (ld_iload_n_1 (x_dk dn_343_0_1_ok 1 rfl)))
  (e_Lok (ps_iconst_0 (x_dk dn_343_0_1_ok 2 rfl)))))
  (e_Tok2
  (e_Tok2
  (e_Lok (lk_12_565 ho_343 (x_dk dn_343_0_1_ok 3 rfl)))
  (e_Lok (e_st (I := eI) (er_pop (x_dk dn_343_0_1_ok 4 rfl)) (nx_stk bf_pop))))
  (e_Tok2
  (e_Lok (e_st (I := eI) (er_goto (off := (-57)) (tg := 4) (x_dk dn_343_0_1_ok 5 rfl) (by decide)) nx_goto))
  (e_Lok (e_rt (I := eI) (k := 0) ⟨(x_dk dn_343_0_1_ok 6 rfl), rfl⟩)))))))
def te_343 : Nat → eE := te_343_0
theorem te_343_ok : ∀ pc, e_EOq eft cls elay eI n_343 pc (te_343 pc) := te_343_0_ok
theorem ho_344 : (xm_y n_344).cls = "RobotCellHouseModel" := rfl
def dn_344_0_0 : List (Nat × Instr × Nat) := [(0, .aload_n 0, 1), (1, .invokevirtual 589, 3), (4, .aload_n 0, 1), (5, .getfield 530, 3), (8, .ifCond .ne 79, 3), (11, .aload_n 0, 1), (12, .bipush 42, 2), (14, .invokevirtual 586, 3), (17, .ifCond .ne 21, 3), (20, .aload_n 0, 1), (21, .bipush 47, 2), (23, .invokevirtual 586, 3), (26, .ifCond .ne 12, 3), (29, .aload_n 0, 1), (30, .bipush 37, 2), (32, .invokevirtual 586, 3), (35, .ifCond .eq 52, 3), (38, .aload_n 0, 1), (39, .getfield 494, 3), (42, .bipush 42, 2), (44, .if_icmp .ne 8, 3), (47, .bipush 12, 2), (49, .goto 19, 3), (52, .aload_n 0, 1), (53, .getfield 494, 3)]
set_option maxRecDepth 20000 in
theorem dn_344_0_0_ok : dn_344_0_0.all (fun q => decide (decode (xm_b n_344) q.1 = .ok (q.2.1, q.2.2))) = true := xa_g_ok (by decide +kernel)
def dn_344_0_1 : List (Nat × Instr × Nat) := [(56, .bipush 47, 2), (58, .if_icmp .ne 8, 3), (61, .bipush 13, 2), (63, .goto 5, 3), (66, .bipush 14, 2), (68, .istore_n 1, 1), (69, .aload_n 0, 1), (70, .invokevirtual 536, 3), (73, .aload_n 0, 1), (74, .invokevirtual 589, 3), (77, .aload_n 0, 1), (78, .iload_n 1, 1), (79, .iconst 0, 1), (80, .invokevirtual 565, 3), (83, .pop, 1), (84, .goto (-80), 3), (87, .return_, 1)]
set_option maxRecDepth 20000 in
theorem dn_344_0_1_ok : dn_344_0_1.all (fun q => decide (decode (xm_b n_344) q.1 = .ok (q.2.1, q.2.2))) = true := xa_g_ok (by decide +kernel)
def te_344_0 : Nat → eE := (e_T 20 (e_T 8 (e_T 1 (e_T 0 (e_L 0 (0, ei_load 0 2 1, 0, 0)) (e_L 1 (2, e_nof, 346, 1))) (e_T 4 (e_L 4 (0, ei_load 0 2 5, 0, 0)) (e_T 5 (e_L 5 (0, ei_getf eft elay 12 88 8, 0, 0)) (e_L 8 (0, ei_if1 1 87 11, 0, 0))))) (e_T 12 (e_T 11 (e_L 11 (0, ei_load 0 2 12, 0, 0)) (e_L 12 (0, ei_push (0, 42) 14, 0, 0))) (e_T 14 (e_L 14 (2, e_nof, 331, 2)) (e_T 17 (e_L 17 (0, ei_if1 1 38 20, 0, 0)) (e_L 20 (0, ei_load 0 2 21, 0, 0)))))) (e_T 30 (e_T 23 (e_T 21 (e_L 21 (0, ei_push (0, 47) 23, 0, 0)) (e_L 23 (2, e_nof, 331, 2))) (e_T 26 (e_L 26 (0, ei_if1 1 38 29, 0, 0)) (e_T 29 (e_L 29 (0, ei_load 0 2 30, 0, 0)) (e_L 30 (0, ei_push (0, 37) 32, 0, 0))))) (e_T 38 (e_T 32 (e_L 32 (2, e_nof, 331, 2)) (e_T 35 (e_L 35 (0, ei_if1 0 87 38, 0, 0)) (e_L 38 (0, ei_load 0 2 39, 0, 0)))) (e_T 39 (e_L 39 (0, ei_getf eft elay 12 85 42, 0, 0)) (e_T 42 (e_L 42 (0, ei_push (0, 42) 44, 0, 0)) (e_L 44 (0, ei_if2 1 52 47, 0, 0)))))))
set_option maxRecDepth 20000 in
set_option maxHeartbeats 4000000 in
theorem te_344_0_ok : ∀ pc, e_EOq eft cls elay eI n_344 pc (te_344_0 pc) :=
  (e_Tok2
  (e_Tok2
  (e_Tok2
  (e_Tok2
  (e_Lok (ld_aload_n_0 (x_dk dn_344_0_0_ok 0 rfl)))
  (e_Lok (lk_12_589 ho_344 (x_dk dn_344_0_0_ok 1 rfl))))
  (e_Tok2
  (e_Lok (ld_aload_n_0 (x_dk dn_344_0_0_ok 2 rfl)))
  (e_Tok2
  (e_Lok (lk_12_530g ho_344 (x_dk dn_344_0_0_ok 3 rfl)))
  (e_Lok (e_st (I := eI) (er_ifne (off := 79) (tg := 87) (x_dk dn_344_0_0_ok 4 rfl) (by decide)) nx_if1)))))
  (e_Tok2
  (e_Tok2
  (e_Lok (ld_aload_n_0 (x_dk dn_344_0_0_ok 5 rfl)))
  (e_Lok (ps_bipush_42 (x_dk dn_344_0_0_ok 6 rfl))))
  (e_Tok2
  (e_Lok (lk_12_586 ho_344 (x_dk dn_344_0_0_ok 7 rfl)))
  (e_Tok2
  (e_Lok (e_st (I := eI) (er_ifne (off := 21) (tg := 38) (x_dk dn_344_0_0_ok 8 rfl) (by decide)) nx_if1))
  (e_Lok (ld_aload_n_0 (x_dk dn_344_0_0_ok 9 rfl)))))))
  (e_Tok2
  (e_Tok2
  (e_Tok2
  (e_Lok (ps_bipush_47 (x_dk dn_344_0_0_ok 10 rfl)))
  (e_Lok (lk_12_586 ho_344 (x_dk dn_344_0_0_ok 11 rfl))))
  (e_Tok2
  (e_Lok (e_st (I := eI) (er_ifne (off := 12) (tg := 38) (x_dk dn_344_0_0_ok 12 rfl) (by decide)) nx_if1))
  (e_Tok2
  (e_Lok (ld_aload_n_0 (x_dk dn_344_0_0_ok 13 rfl)))
  (e_Lok (ps_bipush_37 (x_dk dn_344_0_0_ok 14 rfl))))))
  (e_Tok2
  (e_Tok2
  (e_Lok (lk_12_586 ho_344 (x_dk dn_344_0_0_ok 15 rfl)))
  (e_Tok2
  (e_Lok (e_st (I := eI) (er_ifeq (off := 52) (tg := 87) (x_dk dn_344_0_0_ok 16 rfl) (by decide)) nx_if1))
  (e_Lok (ld_aload_n_0 (x_dk dn_344_0_0_ok 17 rfl)))))
  (e_Tok2
  (e_Lok (lk_12_494g ho_344 (x_dk dn_344_0_0_ok 18 rfl)))
  (e_Tok2
  (e_Lok (ps_bipush_42 (x_dk dn_344_0_0_ok 19 rfl)))
  (e_Lok (e_st (I := eI) (er_icmpne (off := 8) (tg := 52) (x_dk dn_344_0_0_ok 20 rfl) (by decide)) nx_if2)))))))
def te_344_21 : Nat → eE := (e_T 68 (e_T 56 (e_T 49 (e_T 47 (e_L 47 (0, ei_push (0, 12) 49, 0, 0)) (e_L 49 (0, ei_goto 68, 0, 0))) (e_T 52 (e_L 52 (0, ei_load 0 2 53, 0, 0)) (e_T 53 (e_L 53 (0, ei_getf eft elay 12 85 56, 0, 0)) (e_L 56 (0, ei_push (0, 47) 58, 0, 0))))) (e_T 61 (e_T 58 (e_L 58 (0, ei_if2 1 66 61, 0, 0)) (e_L 61 (0, ei_push (0, 13) 63, 0, 0))) (e_T 63 (e_L 63 (0, ei_goto 68, 0, 0)) (e_T 66 (e_L 66 (0, ei_push (0, 14) 68, 0, 0)) (e_L 68 (0, ei_stor 1 0 69, 0, 0)))))) (e_T 77 (e_T 70 (e_T 69 (e_L 69 (0, ei_load 0 2 70, 0, 0)) (e_L 70 (2, e_nof, 327, 1))) (e_T 73 (e_L 73 (0, ei_load 0 2 74, 0, 0)) (e_T 74 (e_L 74 (2, e_nof, 346, 1)) (e_L 77 (0, ei_load 0 2 78, 0, 0))))) (e_T 80 (e_T 78 (e_L 78 (0, ei_load 1 0 79, 0, 0)) (e_T 79 (e_L 79 (0, ei_push (0, 0) 80, 0, 0)) (e_L 80 (2, e_nof, 336, 3)))) (e_T 83 (e_L 83 (0, ei_stk ef_pop 84, 0, 0)) (e_T 84 (e_L 84 (0, ei_goto 4, 0, 0)) (e_L 87 (1, e_nof, 0, 0)))))))
set_option maxRecDepth 20000 in
set_option maxHeartbeats 4000000 in
theorem te_344_21_ok : ∀ pc, e_EOq eft cls elay eI n_344 pc (te_344_21 pc) :=
  (e_Tok2
  (e_Tok2
  (e_Tok2
  (e_Tok2
  (e_Lok (ps_bipush_12 (x_dk dn_344_0_0_ok 21 rfl)))
  (e_Lok (e_st (I := eI) (er_goto (off := 19) (tg := 68) (x_dk dn_344_0_0_ok 22 rfl) (by decide)) nx_goto)))
  (e_Tok2
  (e_Lok (ld_aload_n_0 (x_dk dn_344_0_0_ok 23 rfl)))
  (e_Tok2
  (e_Lok (lk_12_494g ho_344 (x_dk dn_344_0_0_ok 24 rfl)))
  (e_Lok (ps_bipush_47 (x_dk dn_344_0_1_ok 0 rfl))))))
  (e_Tok2
  (e_Tok2
  (e_Lok (e_st (I := eI) (er_icmpne (off := 8) (tg := 66) (x_dk dn_344_0_1_ok 1 rfl) (by decide)) nx_if2))
  (e_Lok (ps_bipush_13 (x_dk dn_344_0_1_ok 2 rfl))))
  (e_Tok2
  (e_Lok (e_st (I := eI) (er_goto (off := 5) (tg := 68) (x_dk dn_344_0_1_ok 3 rfl) (by decide)) nx_goto))
  (e_Tok2
  (e_Lok (ps_bipush_14 (x_dk dn_344_0_1_ok 4 rfl)))
  (e_Lok (e_st (I := eI) (er_istore_n (i := 1) (x_dk dn_344_0_1_ok 5 rfl) (by decide +kernel)) nx_stor))))))
  (e_Tok2
  (e_Tok2
  (e_Tok2
  (e_Lok (ld_aload_n_0 (x_dk dn_344_0_1_ok 6 rfl)))
  (e_Lok (lk_12_536 ho_344 (x_dk dn_344_0_1_ok 7 rfl))))
  (e_Tok2
  (e_Lok (ld_aload_n_0 (x_dk dn_344_0_1_ok 8 rfl)))
  (e_Tok2
  (e_Lok (lk_12_589 ho_344 (x_dk dn_344_0_1_ok 9 rfl)))
  (e_Lok (ld_aload_n_0 (x_dk dn_344_0_1_ok 10 rfl))))))
  (e_Tok2
  (e_Tok2
  (e_Lok (ld_iload_n_1 (x_dk dn_344_0_1_ok 11 rfl)))
  (e_Tok2
  (e_Lok (ps_iconst_0 (x_dk dn_344_0_1_ok 12 rfl)))
  (e_Lok (lk_12_565 ho_344 (x_dk dn_344_0_1_ok 13 rfl)))))
  (e_Tok2
  (e_Lok (e_st (I := eI) (er_pop (x_dk dn_344_0_1_ok 14 rfl)) (nx_stk bf_pop)))
  (e_Tok2
  (e_Lok (e_st (I := eI) (er_goto (off := (-80)) (tg := 4) (x_dk dn_344_0_1_ok 15 rfl) (by decide)) nx_goto))
  (e_Lok (e_rt (I := eI) (k := 0) ⟨(x_dk dn_344_0_1_ok 16 rfl), rfl⟩)))))))
def te_344 : Nat → eE := (e_T 44 te_344_0 te_344_21)
theorem te_344_ok : ∀ pc, e_EOq eft cls elay eI n_344 pc (te_344 pc) := (e_Tok2 (te_344_0_ok) (te_344_21_ok))
theorem ho_345 : (xm_y n_345).cls = "RobotCellHouseModel" := rfl
def dn_345_0_0 : List (Nat × Instr × Nat) := [(0, .aload_n 0, 1), (1, .getfield 530, 3), (4, .ifCond .ne 16, 3), (7, .aload_n 0, 1), (8, .bipush 40, 2), (10, .invokevirtual 586, 3), (13, .ifCond .eq 7, 3), (16, .aload_n 0, 1), (17, .invokevirtual 578, 3), (20, .aload_n 0, 1), (21, .aload_n 0, 1), (22, .bipush 40, 2), (24, .invokevirtual 586, 3), (27, .invokevirtual 555, 3), (30, .aload_n 0, 1), (31, .invokevirtual 592, 3), (34, .aload_n 0, 1), (35, .aload_n 0, 1), (36, .bipush 41, 2), (38, .invokevirtual 586, 3), (41, .invokevirtual 555, 3), (44, .aload_n 0, 1), (45, .dup, 1), (46, .getfield 542, 3), (49, .iconst 1, 1)]
set_option maxRecDepth 20000 in
theorem dn_345_0_0_ok : dn_345_0_0.all (fun q => decide (decode (xm_b n_345) q.1 = .ok (q.2.1, q.2.2))) = true := xa_g_ok (by decide +kernel)
def dn_345_0_1 : List (Nat × Instr × Nat) := [(50, .isub, 1), (51, .putfield 542, 3), (54, .return_, 1)]
set_option maxRecDepth 20000 in
theorem dn_345_0_1_ok : dn_345_0_1.all (fun q => decide (decode (xm_b n_345) q.1 = .ok (q.2.1, q.2.2))) = true := xa_g_ok (by decide +kernel)
def te_345_0 : Nat → eE := (e_T 27 (e_T 13 (e_T 4 (e_T 0 (e_L 0 (0, ei_load 0 2 1, 0, 0)) (e_T 1 (e_L 1 (0, ei_getf eft elay 12 88 4, 0, 0)) (e_L 4 (0, ei_if1 1 20 7, 0, 0)))) (e_T 8 (e_T 7 (e_L 7 (0, ei_load 0 2 8, 0, 0)) (e_L 8 (0, ei_push (0, 40) 10, 0, 0))) (e_T 10 (e_L 10 (2, e_nof, 331, 2)) (e_L 13 (0, ei_if1 0 20 16, 0, 0))))) (e_T 20 (e_T 16 (e_L 16 (0, ei_load 0 2 17, 0, 0)) (e_T 17 (e_L 17 (2, e_nof, 335, 1)) (e_L 20 (0, ei_load 0 2 21, 0, 0)))) (e_T 22 (e_T 21 (e_L 21 (0, ei_load 0 2 22, 0, 0)) (e_L 22 (0, ei_push (0, 40) 24, 0, 0))) (e_T 24 (e_L 24 (2, e_nof, 331, 2)) (e_L 27 (2, e_nof, 334, 2)))))) (e_T 41 (e_T 34 (e_T 30 (e_L 30 (0, ei_load 0 2 31, 0, 0)) (e_T 31 (e_L 31 (2, e_nof, 339, 1)) (e_L 34 (0, ei_load 0 2 35, 0, 0)))) (e_T 36 (e_T 35 (e_L 35 (0, ei_load 0 2 36, 0, 0)) (e_L 36 (0, ei_push (0, 41) 38, 0, 0))) (e_T 38 (e_L 38 (2, e_nof, 331, 2)) (e_L 41 (2, e_nof, 334, 2))))) (e_T 46 (e_T 44 (e_L 44 (0, ei_load 0 2 45, 0, 0)) (e_T 45 (e_L 45 (0, ei_stk ef_dup 46, 0, 0)) (e_L 46 (0, ei_getf eft elay 12 83 49, 0, 0)))) (e_T 50 (e_T 49 (e_L 49 (0, ei_push (0, 1) 50, 0, 0)) (e_L 50 (0, ei_bin eF_sub 51, 0, 0))) (e_T 51 (e_L 51 (0, ei_putf eft elay 12 83 0 54, 0, 0)) (e_L 54 (1, e_nof, 0, 0)))))))
set_option maxRecDepth 20000 in
set_option maxHeartbeats 4000000 in
theorem te_345_0_ok : ∀ pc, e_EOq eft cls elay eI n_345 pc (te_345_0 pc) :=
  (e_Tok2
  (e_Tok2
  (e_Tok2
  (e_Tok2
  (e_Lok (ld_aload_n_0 (x_dk dn_345_0_0_ok 0 rfl)))
  (e_Tok2
  (e_Lok (lk_12_530g ho_345 (x_dk dn_345_0_0_ok 1 rfl)))
  (e_Lok (e_st (I := eI) (er_ifne (off := 16) (tg := 20) (x_dk dn_345_0_0_ok 2 rfl) (by decide)) nx_if1))))
  (e_Tok2
  (e_Tok2
  (e_Lok (ld_aload_n_0 (x_dk dn_345_0_0_ok 3 rfl)))
  (e_Lok (ps_bipush_40 (x_dk dn_345_0_0_ok 4 rfl))))
  (e_Tok2
  (e_Lok (lk_12_586 ho_345 (x_dk dn_345_0_0_ok 5 rfl)))
  (e_Lok (e_st (I := eI) (er_ifeq (off := 7) (tg := 20) (x_dk dn_345_0_0_ok 6 rfl) (by decide)) nx_if1)))))
  (e_Tok2
  (e_Tok2
  (e_Lok (ld_aload_n_0 (x_dk dn_345_0_0_ok 7 rfl)))
  (e_Tok2
  (e_Lok (lk_12_578 ho_345 (x_dk dn_345_0_0_ok 8 rfl)))
  (e_Lok (ld_aload_n_0 (x_dk dn_345_0_0_ok 9 rfl)))))
  (e_Tok2
  (e_Tok2
  (e_Lok (ld_aload_n_0 (x_dk dn_345_0_0_ok 10 rfl)))
  (e_Lok (ps_bipush_40 (x_dk dn_345_0_0_ok 11 rfl))))
  (e_Tok2
  (e_Lok (lk_12_586 ho_345 (x_dk dn_345_0_0_ok 12 rfl)))
  (e_Lok (lk_12_555 ho_345 (x_dk dn_345_0_0_ok 13 rfl)))))))
  (e_Tok2
  (e_Tok2
  (e_Tok2
  (e_Lok (ld_aload_n_0 (x_dk dn_345_0_0_ok 14 rfl)))
  (e_Tok2
  (e_Lok (lk_12_592 ho_345 (x_dk dn_345_0_0_ok 15 rfl)))
  (e_Lok (ld_aload_n_0 (x_dk dn_345_0_0_ok 16 rfl)))))
  (e_Tok2
  (e_Tok2
  (e_Lok (ld_aload_n_0 (x_dk dn_345_0_0_ok 17 rfl)))
  (e_Lok (ps_bipush_41 (x_dk dn_345_0_0_ok 18 rfl))))
  (e_Tok2
  (e_Lok (lk_12_586 ho_345 (x_dk dn_345_0_0_ok 19 rfl)))
  (e_Lok (lk_12_555 ho_345 (x_dk dn_345_0_0_ok 20 rfl))))))
  (e_Tok2
  (e_Tok2
  (e_Lok (ld_aload_n_0 (x_dk dn_345_0_0_ok 21 rfl)))
  (e_Tok2
  (e_Lok (e_st (I := eI) (er_dup (x_dk dn_345_0_0_ok 22 rfl)) (nx_stk bf_dup)))
  (e_Lok (lk_12_542g ho_345 (x_dk dn_345_0_0_ok 23 rfl)))))
  (e_Tok2
  (e_Tok2
  (e_Lok (ps_iconst_1 (x_dk dn_345_0_0_ok 24 rfl)))
  (e_Lok (sm_isub (x_dk dn_345_0_1_ok 0 rfl))))
  (e_Tok2
  (e_Lok (lk_12_542p ho_345 (x_dk dn_345_0_1_ok 1 rfl)))
  (e_Lok (e_rt (I := eI) (k := 0) ⟨(x_dk dn_345_0_1_ok 2 rfl), rfl⟩)))))))
def te_345 : Nat → eE := te_345_0
theorem te_345_ok : ∀ pc, e_EOq eft cls elay eI n_345 pc (te_345 pc) := te_345_0_ok
theorem ho_346 : (xm_y n_346).cls = "RobotCellHouseModel" := rfl
def dn_346_0_0 : List (Nat × Instr × Nat) := [(0, .aload_n 0, 1), (1, .getfield 530, 3), (4, .ifCond .eq 4, 3), (7, .return_, 1), (8, .aload_n 0, 1), (9, .bipush 45, 2), (11, .invokevirtual 586, 3), (14, .ifCond .eq 36, 3), (17, .aload_n 0, 1), (18, .invokevirtual 578, 3), (21, .aload_n 0, 1), (22, .invokevirtual 536, 3), (25, .aload_n 0, 1), (26, .invokevirtual 589, 3), (29, .aload_n 0, 1), (30, .dup, 1), (31, .getfield 542, 3), (34, .iconst 1, 1), (35, .isub, 1), (36, .putfield 542, 3), (39, .aload_n 0, 1), (40, .bipush 9, 2), (42, .iconst 0, 1), (43, .invokevirtual 565, 3), (46, .pop, 1)]
set_option maxRecDepth 20000 in
theorem dn_346_0_0_ok : dn_346_0_0.all (fun q => decide (decode (xm_b n_346) q.1 = .ok (q.2.1, q.2.2))) = true := xa_g_ok (by decide +kernel)
def dn_346_0_1 : List (Nat × Instr × Nat) := [(47, .goto 195, 3), (50, .aload_n 0, 1), (51, .getfield 497, 3), (54, .iconst 2, 1), (55, .if_icmp .ne 20, 3), (58, .aload_n 0, 1), (59, .iconst 1, 1), (60, .aload_n 0, 1), (61, .getfield 494, 3), (64, .invokevirtual 565, 3), (67, .pop, 1), (68, .aload_n 0, 1), (69, .invokevirtual 536, 3), (72, .goto 170, 3), (75, .aload_n 0, 1), (76, .getfield 497, 3), (79, .iconst 1, 1), (80, .if_icmp .ne 17, 3), (83, .aload_n 0, 1), (84, .iconst 2, 1), (85, .aload_n 0, 1), (86, .iconst 2, 1), (87, .iconst 0, 1), (88, .invokevirtual 565, 3), (91, .invokevirtual 595, 3)]
set_option maxRecDepth 20000 in
theorem dn_346_0_1_ok : dn_346_0_1.all (fun q => decide (decode (xm_b n_346) q.1 = .ok (q.2.1, q.2.2))) = true := xa_g_ok (by decide +kernel)
def dn_346_0_2 : List (Nat × Instr × Nat) := [(94, .goto 148, 3), (97, .aload_n 0, 1), (98, .bipush 27, 2), (100, .invokevirtual 562, 3), (103, .ifCond .ne 12, 3), (106, .aload_n 0, 1), (107, .bipush 28, 2), (109, .invokevirtual 562, 3), (112, .ifCond .eq 36, 3), (115, .aload_n 0, 1), (116, .getfield 494, 3), (119, .bipush 27, 2), (121, .if_icmp .ne 7, 3), (124, .iconst 3, 1), (125, .goto 4, 3), (128, .iconst 4, 1), (129, .istore_n 1, 1), (130, .aload_n 0, 1), (131, .invokevirtual 536, 3), (134, .aload_n 0, 1), (135, .invokevirtual 599, 3), (138, .aload_n 0, 1), (139, .iload_n 1, 1), (140, .iconst 0, 1), (141, .invokevirtual 565, 3)]
set_option maxRecDepth 20000 in
theorem dn_346_0_2_ok : dn_346_0_2.all (fun q => decide (decode (xm_b n_346) q.1 = .ok (q.2.1, q.2.2))) = true := xa_g_ok (by decide +kernel)
def dn_346_0_3 : List (Nat × Instr × Nat) := [(144, .pop, 1), (145, .goto 97, 3), (148, .aload_n 0, 1), (149, .bipush 40, 2), (151, .invokevirtual 586, 3), (154, .ifCond .eq 10, 3), (157, .aload_n 0, 1), (158, .invokevirtual 599, 3), (161, .goto 81, 3), (164, .aload_n 0, 1), (165, .getfield 497, 3), (168, .iconst 4, 1), (169, .if_icmp .ne 68, 3), (172, .aload_n 0, 1), (173, .getfield 494, 3), (176, .bipush 29, 2), (178, .if_icmp .lt 59, 3), (181, .aload_n 0, 1), (182, .aload_n 0, 1), (183, .getfield 494, 3), (186, .bipush 29, 2), (188, .if_icmp .ne 7, 3), (191, .iconst 5, 1), (192, .goto 33, 3), (195, .aload_n 0, 1)]
set_option maxRecDepth 20000 in
theorem dn_346_0_3_ok : dn_346_0_3.all (fun q => decide (decode (xm_b n_346) q.1 = .ok (q.2.1, q.2.2))) = true := xa_g_ok (by decide +kernel)
def dn_346_1_0 : List (Nat × Instr × Nat) := [(196, .getfield 494, 3), (199, .bipush 30, 2), (201, .if_icmp .ne 8, 3), (204, .bipush 6, 2), (206, .goto 19, 3), (209, .aload_n 0, 1), (210, .getfield 494, 3), (213, .bipush 31, 2), (215, .if_icmp .ne 8, 3), (218, .bipush 7, 2), (220, .goto 5, 3), (223, .bipush 8, 2), (225, .iconst 0, 1), (226, .invokevirtual 565, 3), (229, .pop, 1), (230, .aload_n 0, 1), (231, .invokevirtual 536, 3), (234, .goto 8, 3), (237, .aload_n 0, 1), (238, .iconst 2, 1), (239, .invokevirtual 539, 3), (242, .return_, 1)]
set_option maxRecDepth 20000 in
theorem dn_346_1_0_ok : dn_346_1_0.all (fun q => decide (decode (xm_b n_346) q.1 = .ok (q.2.1, q.2.2))) = true := xa_g_ok (by decide +kernel)
def te_346_0 : Nat → eE := (e_T 29 (e_T 11 (e_T 4 (e_T 0 (e_L 0 (0, ei_load 0 2 1, 0, 0)) (e_T 1 (e_L 1 (0, ei_getf eft elay 12 88 4, 0, 0)) (e_L 4 (0, ei_if1 0 8 7, 0, 0)))) (e_T 8 (e_T 7 (e_L 7 (1, e_nof, 0, 0)) (e_L 8 (0, ei_load 0 2 9, 0, 0))) (e_T 9 (e_L 9 (0, ei_push (0, 45) 11, 0, 0)) (e_L 11 (2, e_nof, 331, 2))))) (e_T 21 (e_T 17 (e_T 14 (e_L 14 (0, ei_if1 0 50 17, 0, 0)) (e_L 17 (0, ei_load 0 2 18, 0, 0))) (e_T 18 (e_L 18 (2, e_nof, 335, 1)) (e_L 21 (0, ei_load 0 2 22, 0, 0)))) (e_T 25 (e_T 22 (e_L 22 (2, e_nof, 327, 1)) (e_L 25 (0, ei_load 0 2 26, 0, 0))) (e_T 26 (e_L 26 (2, e_nof, 346, 1)) (e_L 29 (0, ei_load 0 2 30, 0, 0)))))) (e_T 40 (e_T 34 (e_T 30 (e_L 30 (0, ei_stk ef_dup 31, 0, 0)) (e_T 31 (e_L 31 (0, ei_getf eft elay 12 83 34, 0, 0)) (e_L 34 (0, ei_push (0, 1) 35, 0, 0)))) (e_T 36 (e_T 35 (e_L 35 (0, ei_bin eF_sub 36, 0, 0)) (e_L 36 (0, ei_putf eft elay 12 83 0 39, 0, 0))) (e_T 39 (e_L 39 (0, ei_load 0 2 40, 0, 0)) (e_L 40 (0, ei_push (0, 9) 42, 0, 0))))) (e_T 47 (e_T 43 (e_T 42 (e_L 42 (0, ei_push (0, 0) 43, 0, 0)) (e_L 43 (2, e_nof, 336, 3))) (e_T 46 (e_L 46 (0, ei_stk ef_pop 47, 0, 0)) (e_L 47 (0, ei_goto 242, 0, 0)))) (e_T 51 (e_T 50 (e_L 50 (0, ei_load 0 2 51, 0, 0)) (e_L 51 (0, ei_getf eft elay 12 84 54, 0, 0))) (e_T 54 (e_L 54 (0, ei_push (0, 2) 55, 0, 0)) (e_L 55 (0, ei_if2 1 75 58, 0, 0)))))))
set_option maxRecDepth 20000 in
set_option maxHeartbeats 4000000 in
theorem te_346_0_ok : ∀ pc, e_EOq eft cls elay eI n_346 pc (te_346_0 pc) :=
  (e_Tok2
  (e_Tok2
  (e_Tok2
  (e_Tok2
  (e_Lok (ld_aload_n_0 (x_dk dn_346_0_0_ok 0 rfl)))
  (e_Tok2
  (e_Lok (lk_12_530g ho_346 (x_dk dn_346_0_0_ok 1 rfl)))
  (e_Lok (e_st (I := eI) (er_ifeq (off := 4) (tg := 8) (x_dk dn_346_0_0_ok 2 rfl) (by decide)) nx_if1))))
  (e_Tok2
  (e_Tok2
  (e_Lok (e_rt (I := eI) (k := 0) ⟨(x_dk dn_346_0_0_ok 3 rfl), rfl⟩))
  (e_Lok (ld_aload_n_0 (x_dk dn_346_0_0_ok 4 rfl))))
  (e_Tok2
  (e_Lok (ps_bipush_45 (x_dk dn_346_0_0_ok 5 rfl)))
  (e_Lok (lk_12_586 ho_346 (x_dk dn_346_0_0_ok 6 rfl))))))
  (e_Tok2
  (e_Tok2
  (e_Tok2
  (e_Lok (e_st (I := eI) (er_ifeq (off := 36) (tg := 50) (x_dk dn_346_0_0_ok 7 rfl) (by decide)) nx_if1))
  (e_Lok (ld_aload_n_0 (x_dk dn_346_0_0_ok 8 rfl))))
  (e_Tok2
  (e_Lok (lk_12_578 ho_346 (x_dk dn_346_0_0_ok 9 rfl)))
  (e_Lok (ld_aload_n_0 (x_dk dn_346_0_0_ok 10 rfl)))))
  (e_Tok2
  (e_Tok2
  (e_Lok (lk_12_536 ho_346 (x_dk dn_346_0_0_ok 11 rfl)))
  (e_Lok (ld_aload_n_0 (x_dk dn_346_0_0_ok 12 rfl))))
  (e_Tok2
  (e_Lok (lk_12_589 ho_346 (x_dk dn_346_0_0_ok 13 rfl)))
  (e_Lok (ld_aload_n_0 (x_dk dn_346_0_0_ok 14 rfl)))))))
  (e_Tok2
  (e_Tok2
  (e_Tok2
  (e_Lok (e_st (I := eI) (er_dup (x_dk dn_346_0_0_ok 15 rfl)) (nx_stk bf_dup)))
  (e_Tok2
  (e_Lok (lk_12_542g ho_346 (x_dk dn_346_0_0_ok 16 rfl)))
  (e_Lok (ps_iconst_1 (x_dk dn_346_0_0_ok 17 rfl)))))
  (e_Tok2
  (e_Tok2
  (e_Lok (sm_isub (x_dk dn_346_0_0_ok 18 rfl)))
  (e_Lok (lk_12_542p ho_346 (x_dk dn_346_0_0_ok 19 rfl))))
  (e_Tok2
  (e_Lok (ld_aload_n_0 (x_dk dn_346_0_0_ok 20 rfl)))
  (e_Lok (ps_bipush_9 (x_dk dn_346_0_0_ok 21 rfl))))))
  (e_Tok2
  (e_Tok2
  (e_Tok2
  (e_Lok (ps_iconst_0 (x_dk dn_346_0_0_ok 22 rfl)))
  (e_Lok (lk_12_565 ho_346 (x_dk dn_346_0_0_ok 23 rfl))))
  (e_Tok2
  (e_Lok (e_st (I := eI) (er_pop (x_dk dn_346_0_0_ok 24 rfl)) (nx_stk bf_pop)))
  (e_Lok (e_st (I := eI) (er_goto (off := 195) (tg := 242) (x_dk dn_346_0_1_ok 0 rfl) (by decide)) nx_goto))))
  (e_Tok2
  (e_Tok2
  (e_Lok (ld_aload_n_0 (x_dk dn_346_0_1_ok 1 rfl)))
  (e_Lok (lk_12_497g ho_346 (x_dk dn_346_0_1_ok 2 rfl))))
  (e_Tok2
  (e_Lok (ps_iconst_2 (x_dk dn_346_0_1_ok 3 rfl)))
  (e_Lok (e_st (I := eI) (er_icmpne (off := 20) (tg := 75) (x_dk dn_346_0_1_ok 4 rfl) (by decide)) nx_if2)))))))
def te_346_30 : Nat → eE := (e_T 84 (e_T 68 (e_T 60 (e_T 58 (e_L 58 (0, ei_load 0 2 59, 0, 0)) (e_T 59 (e_L 59 (0, ei_push (0, 1) 60, 0, 0)) (e_L 60 (0, ei_load 0 2 61, 0, 0)))) (e_T 64 (e_T 61 (e_L 61 (0, ei_getf eft elay 12 85 64, 0, 0)) (e_L 64 (2, e_nof, 336, 3))) (e_T 67 (e_L 67 (0, ei_stk ef_pop 68, 0, 0)) (e_L 68 (0, ei_load 0 2 69, 0, 0))))) (e_T 76 (e_T 72 (e_T 69 (e_L 69 (2, e_nof, 327, 1)) (e_L 72 (0, ei_goto 242, 0, 0))) (e_T 75 (e_L 75 (0, ei_load 0 2 76, 0, 0)) (e_L 76 (0, ei_getf eft elay 12 84 79, 0, 0)))) (e_T 80 (e_T 79 (e_L 79 (0, ei_push (0, 1) 80, 0, 0)) (e_L 80 (0, ei_if2 1 97 83, 0, 0))) (e_T 83 (e_L 83 (0, ei_load 0 2 84, 0, 0)) (e_L 84 (0, ei_push (0, 2) 85, 0, 0)))))) (e_T 98 (e_T 88 (e_T 86 (e_T 85 (e_L 85 (0, ei_load 0 2 86, 0, 0)) (e_L 86 (0, ei_push (0, 2) 87, 0, 0))) (e_T 87 (e_L 87 (0, ei_push (0, 0) 88, 0, 0)) (e_L 88 (2, e_nof, 336, 3)))) (e_T 94 (e_T 91 (e_L 91 (2, e_nof, 338, 3)) (e_L 94 (0, ei_goto 242, 0, 0))) (e_T 97 (e_L 97 (0, ei_load 0 2 98, 0, 0)) (e_L 98 (0, ei_push (0, 27) 100, 0, 0))))) (e_T 107 (e_T 103 (e_T 100 (e_L 100 (2, e_nof, 332, 2)) (e_L 103 (0, ei_if1 1 115 106, 0, 0))) (e_T 106 (e_L 106 (0, ei_load 0 2 107, 0, 0)) (e_L 107 (0, ei_push (0, 28) 109, 0, 0)))) (e_T 112 (e_T 109 (e_L 109 (2, e_nof, 332, 2)) (e_L 112 (0, ei_if1 0 148 115, 0, 0))) (e_T 115 (e_L 115 (0, ei_load 0 2 116, 0, 0)) (e_L 116 (0, ei_getf eft elay 12 85 119, 0, 0)))))))
set_option maxRecDepth 20000 in
set_option maxHeartbeats 4000000 in
theorem te_346_30_ok : ∀ pc, e_EOq eft cls elay eI n_346 pc (te_346_30 pc) :=
  (e_Tok2
  (e_Tok2
  (e_Tok2
  (e_Tok2
  (e_Lok (ld_aload_n_0 (x_dk dn_346_0_1_ok 5 rfl)))
  (e_Tok2
  (e_Lok (ps_iconst_1 (x_dk dn_346_0_1_ok 6 rfl)))
  (e_Lok (ld_aload_n_0 (x_dk dn_346_0_1_ok 7 rfl)))))
  (e_Tok2
  (e_Tok2
  (e_Lok (lk_12_494g ho_346 (x_dk dn_346_0_1_ok 8 rfl)))
  (e_Lok (lk_12_565 ho_346 (x_dk dn_346_0_1_ok 9 rfl))))
  (e_Tok2
  (e_Lok (e_st (I := eI) (er_pop (x_dk dn_346_0_1_ok 10 rfl)) (nx_stk bf_pop)))
  (e_Lok (ld_aload_n_0 (x_dk dn_346_0_1_ok 11 rfl))))))
  (e_Tok2
  (e_Tok2
  (e_Tok2
  (e_Lok (lk_12_536 ho_346 (x_dk dn_346_0_1_ok 12 rfl)))
  (e_Lok (e_st (I := eI) (er_goto (off := 170) (tg := 242) (x_dk dn_346_0_1_ok 13 rfl) (by decide)) nx_goto)))
  (e_Tok2
  (e_Lok (ld_aload_n_0 (x_dk dn_346_0_1_ok 14 rfl)))
  (e_Lok (lk_12_497g ho_346 (x_dk dn_346_0_1_ok 15 rfl)))))
  (e_Tok2
  (e_Tok2
  (e_Lok (ps_iconst_1 (x_dk dn_346_0_1_ok 16 rfl)))
  (e_Lok (e_st (I := eI) (er_icmpne (off := 17) (tg := 97) (x_dk dn_346_0_1_ok 17 rfl) (by decide)) nx_if2)))
  (e_Tok2
  (e_Lok (ld_aload_n_0 (x_dk dn_346_0_1_ok 18 rfl)))
  (e_Lok (ps_iconst_2 (x_dk dn_346_0_1_ok 19 rfl)))))))
  (e_Tok2
  (e_Tok2
  (e_Tok2
  (e_Tok2
  (e_Lok (ld_aload_n_0 (x_dk dn_346_0_1_ok 20 rfl)))
  (e_Lok (ps_iconst_2 (x_dk dn_346_0_1_ok 21 rfl))))
  (e_Tok2
  (e_Lok (ps_iconst_0 (x_dk dn_346_0_1_ok 22 rfl)))
  (e_Lok (lk_12_565 ho_346 (x_dk dn_346_0_1_ok 23 rfl)))))
  (e_Tok2
  (e_Tok2
  (e_Lok (lk_12_595 ho_346 (x_dk dn_346_0_1_ok 24 rfl)))
  (e_Lok (e_st (I := eI) (er_goto (off := 148) (tg := 242) (x_dk dn_346_0_2_ok 0 rfl) (by decide)) nx_goto)))
  (e_Tok2
  (e_Lok (ld_aload_n_0 (x_dk dn_346_0_2_ok 1 rfl)))
  (e_Lok (ps_bipush_27 (x_dk dn_346_0_2_ok 2 rfl))))))
  (e_Tok2
  (e_Tok2
  (e_Tok2
  (e_Lok (lk_12_562 ho_346 (x_dk dn_346_0_2_ok 3 rfl)))
  (e_Lok (e_st (I := eI) (er_ifne (off := 12) (tg := 115) (x_dk dn_346_0_2_ok 4 rfl) (by decide)) nx_if1)))
  (e_Tok2
  (e_Lok (ld_aload_n_0 (x_dk dn_346_0_2_ok 5 rfl)))
  (e_Lok (ps_bipush_28 (x_dk dn_346_0_2_ok 6 rfl)))))
  (e_Tok2
  (e_Tok2
  (e_Lok (lk_12_562 ho_346 (x_dk dn_346_0_2_ok 7 rfl)))
  (e_Lok (e_st (I := eI) (er_ifeq (off := 36) (tg := 148) (x_dk dn_346_0_2_ok 8 rfl) (by decide)) nx_if1)))
  (e_Tok2
  (e_Lok (ld_aload_n_0 (x_dk dn_346_0_2_ok 9 rfl)))
  (e_Lok (lk_12_494g ho_346 (x_dk dn_346_0_2_ok 10 rfl))))))))
def te_346_61 : Nat → eE := (e_T 144 (e_T 130 (e_T 124 (e_T 119 (e_L 119 (0, ei_push (0, 27) 121, 0, 0)) (e_T 121 (e_L 121 (0, ei_if2 1 128 124, 0, 0)) (e_L 124 (0, ei_push (0, 3) 125, 0, 0)))) (e_T 128 (e_T 125 (e_L 125 (0, ei_goto 129, 0, 0)) (e_L 128 (0, ei_push (0, 4) 129, 0, 0))) (e_T 129 (e_L 129 (0, ei_stor 1 0 130, 0, 0)) (e_L 130 (0, ei_load 0 2 131, 0, 0))))) (e_T 138 (e_T 134 (e_T 131 (e_L 131 (2, e_nof, 327, 1)) (e_L 134 (0, ei_load 0 2 135, 0, 0))) (e_T 135 (e_L 135 (2, e_nof, 345, 1)) (e_L 138 (0, ei_load 0 2 139, 0, 0)))) (e_T 140 (e_T 139 (e_L 139 (0, ei_load 1 0 140, 0, 0)) (e_L 140 (0, ei_push (0, 0) 141, 0, 0))) (e_T 141 (e_L 141 (2, e_nof, 336, 3)) (e_L 144 (0, ei_stk ef_pop 145, 0, 0)))))) (e_T 158 (e_T 149 (e_T 145 (e_L 145 (0, ei_goto 242, 0, 0)) (e_T 148 (e_L 148 (0, ei_load 0 2 149, 0, 0)) (e_L 149 (0, ei_push (0, 40) 151, 0, 0)))) (e_T 154 (e_T 151 (e_L 151 (2, e_nof, 331, 2)) (e_L 154 (0, ei_if1 0 164 157, 0, 0))) (e_T 157 (e_L 157 (0, ei_load 0 2 158, 0, 0)) (e_L 158 (2, e_nof, 345, 1))))) (e_T 168 (e_T 164 (e_T 161 (e_L 161 (0, ei_goto 242, 0, 0)) (e_L 164 (0, ei_load 0 2 165, 0, 0))) (e_T 165 (e_L 165 (0, ei_getf eft elay 12 84 168, 0, 0)) (e_L 168 (0, ei_push (0, 4) 169, 0, 0)))) (e_T 172 (e_T 169 (e_L 169 (0, ei_if2 1 237 172, 0, 0)) (e_L 172 (0, ei_load 0 2 173, 0, 0))) (e_T 173 (e_L 173 (0, ei_getf eft elay 12 85 176, 0, 0)) (e_L 176 (0, ei_push (0, 29) 178, 0, 0)))))))
set_option maxRecDepth 20000 in
set_option maxHeartbeats 4000000 in
theorem te_346_61_ok : ∀ pc, e_EOq eft cls elay eI n_346 pc (te_346_61 pc) :=
  (e_Tok2
  (e_Tok2
  (e_Tok2
  (e_Tok2
  (e_Lok (ps_bipush_27 (x_dk dn_346_0_2_ok 11 rfl)))
  (e_Tok2
  (e_Lok (e_st (I := eI) (er_icmpne (off := 7) (tg := 128) (x_dk dn_346_0_2_ok 12 rfl) (by decide)) nx_if2))
  (e_Lok (ps_iconst_3 (x_dk dn_346_0_2_ok 13 rfl)))))
  (e_Tok2
  (e_Tok2
  (e_Lok (e_st (I := eI) (er_goto (off := 4) (tg := 129) (x_dk dn_346_0_2_ok 14 rfl) (by decide)) nx_goto))
  (e_Lok (ps_iconst_4 (x_dk dn_346_0_2_ok 15 rfl))))
  (e_Tok2
  (e_Lok (e_st (I := eI) (er_istore_n (i := 1) (x_dk dn_346_0_2_ok 16 rfl) (by decide +kernel)) nx_stor))
  (e_Lok (ld_aload_n_0 (x_dk dn_346_0_2_ok 17 rfl))))))
  (e_Tok2
  (e_Tok2
  (e_Tok2
  (e_Lok (lk_12_536 ho_346 (x_dk dn_346_0_2_ok 18 rfl)))
  (e_Lok (ld_aload_n_0 (x_dk dn_346_0_2_ok 19 rfl))))
  (e_Tok2
  (e_Lok (lk_12_599 ho_346 (x_dk dn_346_0_2_ok 20 rfl)))
  (e_Lok (ld_aload_n_0 (x_dk dn_346_0_2_ok 21 rfl)))))
  (e_Tok2
  (e_Tok2
  (e_Lok (ld_iload_n_1 (x_dk dn_346_0_2_ok 22 rfl)))
  (e_Lok (ps_iconst_0 (x_dk dn_346_0_2_ok 23 rfl))))
  (e_Tok2
  (e_Lok (lk_12_565 ho_346 (x_dk dn_346_0_2_ok 24 rfl)))
  (e_Lok (e_st (I := eI) (er_pop (x_dk dn_346_0_3_ok 0 rfl)) (nx_stk bf_pop)))))))
  (e_Tok2
  (e_Tok2
  (e_Tok2
  (e_Lok (e_st (I := eI) (er_goto (off := 97) (tg := 242) (x_dk dn_346_0_3_ok 1 rfl) (by decide)) nx_goto))
  (e_Tok2
  (e_Lok (ld_aload_n_0 (x_dk dn_346_0_3_ok 2 rfl)))
  (e_Lok (ps_bipush_40 (x_dk dn_346_0_3_ok 3 rfl)))))
  (e_Tok2
  (e_Tok2
  (e_Lok (lk_12_586 ho_346 (x_dk dn_346_0_3_ok 4 rfl)))
  (e_Lok (e_st (I := eI) (er_ifeq (off := 10) (tg := 164) (x_dk dn_346_0_3_ok 5 rfl) (by decide)) nx_if1)))
  (e_Tok2
  (e_Lok (ld_aload_n_0 (x_dk dn_346_0_3_ok 6 rfl)))
  (e_Lok (lk_12_599 ho_346 (x_dk dn_346_0_3_ok 7 rfl))))))
  (e_Tok2
  (e_Tok2
  (e_Tok2
  (e_Lok (e_st (I := eI) (er_goto (off := 81) (tg := 242) (x_dk dn_346_0_3_ok 8 rfl) (by decide)) nx_goto))
  (e_Lok (ld_aload_n_0 (x_dk dn_346_0_3_ok 9 rfl))))
  (e_Tok2
  (e_Lok (lk_12_497g ho_346 (x_dk dn_346_0_3_ok 10 rfl)))
  (e_Lok (ps_iconst_4 (x_dk dn_346_0_3_ok 11 rfl)))))
  (e_Tok2
  (e_Tok2
  (e_Lok (e_st (I := eI) (er_icmpne (off := 68) (tg := 237) (x_dk dn_346_0_3_ok 12 rfl) (by decide)) nx_if2))
  (e_Lok (ld_aload_n_0 (x_dk dn_346_0_3_ok 13 rfl))))
  (e_Tok2
  (e_Lok (lk_12_494g ho_346 (x_dk dn_346_0_3_ok 14 rfl)))
  (e_Lok (ps_bipush_29 (x_dk dn_346_0_3_ok 15 rfl))))))))
def te_346_91 : Nat → eE := (e_T 209 (e_T 191 (e_T 182 (e_T 178 (e_L 178 (0, ei_if2 2 237 181, 0, 0)) (e_T 181 (e_L 181 (0, ei_load 0 2 182, 0, 0)) (e_L 182 (0, ei_load 0 2 183, 0, 0)))) (e_T 186 (e_T 183 (e_L 183 (0, ei_getf eft elay 12 85 186, 0, 0)) (e_L 186 (0, ei_push (0, 29) 188, 0, 0))) (e_T 188 (e_L 188 (0, ei_if2 1 195 191, 0, 0)) (e_L 191 (0, ei_push (0, 5) 192, 0, 0))))) (e_T 199 (e_T 195 (e_T 192 (e_L 192 (0, ei_goto 225, 0, 0)) (e_L 195 (0, ei_load 0 2 196, 0, 0))) (e_T 196 (e_L 196 (0, ei_getf eft elay 12 85 199, 0, 0)) (e_L 199 (0, ei_push (0, 30) 201, 0, 0)))) (e_T 204 (e_T 201 (e_L 201 (0, ei_if2 1 209 204, 0, 0)) (e_L 204 (0, ei_push (0, 6) 206, 0, 0))) (e_T 206 (e_L 206 (0, ei_goto 225, 0, 0)) (e_L 209 (0, ei_load 0 2 210, 0, 0)))))) (e_T 226 (e_T 218 (e_T 213 (e_T 210 (e_L 210 (0, ei_getf eft elay 12 85 213, 0, 0)) (e_L 213 (0, ei_push (0, 31) 215, 0, 0))) (e_T 215 (e_L 215 (0, ei_if2 1 223 218, 0, 0)) (e_L 218 (0, ei_push (0, 7) 220, 0, 0)))) (e_T 223 (e_T 220 (e_L 220 (0, ei_goto 225, 0, 0)) (e_L 223 (0, ei_push (0, 8) 225, 0, 0))) (e_T 225 (e_L 225 (0, ei_push (0, 0) 226, 0, 0)) (e_L 226 (2, e_nof, 336, 3))))) (e_T 234 (e_T 230 (e_T 229 (e_L 229 (0, ei_stk ef_pop 230, 0, 0)) (e_L 230 (0, ei_load 0 2 231, 0, 0))) (e_T 231 (e_L 231 (2, e_nof, 327, 1)) (e_L 234 (0, ei_goto 242, 0, 0)))) (e_T 238 (e_T 237 (e_L 237 (0, ei_load 0 2 238, 0, 0)) (e_L 238 (0, ei_push (0, 2) 239, 0, 0))) (e_T 239 (e_L 239 (2, e_nof, 333, 2)) (e_L 242 (1, e_nof, 0, 0)))))))
set_option maxRecDepth 20000 in
set_option maxHeartbeats 4000000 in
theorem te_346_91_ok : ∀ pc, e_EOq eft cls elay eI n_346 pc (te_346_91 pc) :=
  (e_Tok2
  (e_Tok2
  (e_Tok2
  (e_Tok2
  (e_Lok (e_st (I := eI) (er_icmplt (off := 59) (tg := 237) (x_dk dn_346_0_3_ok 16 rfl) (by decide)) nx_if2))
  (e_Tok2
  (e_Lok (ld_aload_n_0 (x_dk dn_346_0_3_ok 17 rfl)))
  (e_Lok (ld_aload_n_0 (x_dk dn_346_0_3_ok 18 rfl)))))
  (e_Tok2
  (e_Tok2
  (e_Lok (lk_12_494g ho_346 (x_dk dn_346_0_3_ok 19 rfl)))
  (e_Lok (ps_bipush_29 (x_dk dn_346_0_3_ok 20 rfl))))
  (e_Tok2
  (e_Lok (e_st (I := eI) (er_icmpne (off := 7) (tg := 195) (x_dk dn_346_0_3_ok 21 rfl) (by decide)) nx_if2))
  (e_Lok (ps_iconst_5 (x_dk dn_346_0_3_ok 22 rfl))))))
  (e_Tok2
  (e_Tok2
  (e_Tok2
  (e_Lok (e_st (I := eI) (er_goto (off := 33) (tg := 225) (x_dk dn_346_0_3_ok 23 rfl) (by decide)) nx_goto))
  (e_Lok (ld_aload_n_0 (x_dk dn_346_0_3_ok 24 rfl))))
  (e_Tok2
  (e_Lok (lk_12_494g ho_346 (x_dk dn_346_1_0_ok 0 rfl)))
  (e_Lok (ps_bipush_30 (x_dk dn_346_1_0_ok 1 rfl)))))
  (e_Tok2
  (e_Tok2
  (e_Lok (e_st (I := eI) (er_icmpne (off := 8) (tg := 209) (x_dk dn_346_1_0_ok 2 rfl) (by decide)) nx_if2))
  (e_Lok (ps_bipush_6 (x_dk dn_346_1_0_ok 3 rfl))))
  (e_Tok2
  (e_Lok (e_st (I := eI) (er_goto (off := 19) (tg := 225) (x_dk dn_346_1_0_ok 4 rfl) (by decide)) nx_goto))
  (e_Lok (ld_aload_n_0 (x_dk dn_346_1_0_ok 5 rfl)))))))
  (e_Tok2
  (e_Tok2
  (e_Tok2
  (e_Tok2
  (e_Lok (lk_12_494g ho_346 (x_dk dn_346_1_0_ok 6 rfl)))
  (e_Lok (ps_bipush_31 (x_dk dn_346_1_0_ok 7 rfl))))
  (e_Tok2
  (e_Lok (e_st (I := eI) (er_icmpne (off := 8) (tg := 223) (x_dk dn_346_1_0_ok 8 rfl) (by decide)) nx_if2))
  (e_Lok (ps_bipush_7 (x_dk dn_346_1_0_ok 9 rfl)))))
  (e_Tok2
  (e_Tok2
  (e_Lok (e_st (I := eI) (er_goto (off := 5) (tg := 225) (x_dk dn_346_1_0_ok 10 rfl) (by decide)) nx_goto))
  (e_Lok (ps_bipush_8 (x_dk dn_346_1_0_ok 11 rfl))))
  (e_Tok2
  (e_Lok (ps_iconst_0 (x_dk dn_346_1_0_ok 12 rfl)))
  (e_Lok (lk_12_565 ho_346 (x_dk dn_346_1_0_ok 13 rfl))))))
  (e_Tok2
  (e_Tok2
  (e_Tok2
  (e_Lok (e_st (I := eI) (er_pop (x_dk dn_346_1_0_ok 14 rfl)) (nx_stk bf_pop)))
  (e_Lok (ld_aload_n_0 (x_dk dn_346_1_0_ok 15 rfl))))
  (e_Tok2
  (e_Lok (lk_12_536 ho_346 (x_dk dn_346_1_0_ok 16 rfl)))
  (e_Lok (e_st (I := eI) (er_goto (off := 8) (tg := 242) (x_dk dn_346_1_0_ok 17 rfl) (by decide)) nx_goto))))
  (e_Tok2
  (e_Tok2
  (e_Lok (ld_aload_n_0 (x_dk dn_346_1_0_ok 18 rfl)))
  (e_Lok (ps_iconst_2 (x_dk dn_346_1_0_ok 19 rfl))))
  (e_Tok2
  (e_Lok (lk_12_539 ho_346 (x_dk dn_346_1_0_ok 20 rfl)))
  (e_Lok (e_rt (I := eI) (k := 0) ⟨(x_dk dn_346_1_0_ok 21 rfl), rfl⟩)))))))
def te_346 : Nat → eE := (e_T 116 (e_T 55 te_346_0 te_346_30) (e_T 176 te_346_61 te_346_91))
theorem te_346_ok : ∀ pc, e_EOq eft cls elay eI n_346 pc (te_346 pc) := (e_Tok2 ((e_Tok2 (te_346_0_ok) (te_346_30_ok))) ((e_Tok2 (te_346_61_ok) (te_346_91_ok))))
theorem ho_347 : (xm_y n_347).cls = "RobotCellHouseModel" := rfl
def dn_347_0_0 : List (Nat × Instr × Nat) := [(0, .aload_n 0, 1), (1, .getfield 530, 3), (4, .ifCond .ne 58, 3), (7, .aload_n 0, 1), (8, .getfield 497, 3), (11, .iconst 1, 1), (12, .if_icmp .eq 46, 3), (15, .aload_n 0, 1), (16, .getfield 497, 3), (19, .iconst 4, 1), (20, .if_icmp .ne 42, 3), (23, .aload_n 0, 1), (24, .getfield 494, 3), (27, .i2l, 1), (28, .ldc2_w 348, 3), (31, .ldc2_w 602, 3), (34, .invokestatic 301, 3), (37, .ifCond .ne 21, 3), (40, .aload_n 0, 1), (41, .getfield 494, 3), (44, .bipush 20, 2), (46, .if_icmp .eq 12, 3), (49, .aload_n 0, 1), (50, .getfield 494, 3), (53, .bipush 21, 2)]
set_option maxRecDepth 20000 in
theorem dn_347_0_0_ok : dn_347_0_0.all (fun q => decide (decode (xm_b n_347) q.1 = .ok (q.2.1, q.2.2))) = true := xa_g_ok (by decide +kernel)
def dn_347_0_1 : List (Nat × Instr × Nat) := [(55, .if_icmp .ne 7, 3), (58, .iconst 1, 1), (59, .goto 4, 3), (62, .iconst 0, 1), (63, .ireturn, 1)]
set_option maxRecDepth 20000 in
theorem dn_347_0_1_ok : dn_347_0_1.all (fun q => decide (decode (xm_b n_347) q.1 = .ok (q.2.1, q.2.2))) = true := xa_g_ok (by decide +kernel)
def te_347_0 : Nat → eE := (e_T 28 (e_T 12 (e_T 4 (e_T 0 (e_L 0 (0, ei_load 0 2 1, 0, 0)) (e_T 1 (e_L 1 (0, ei_getf eft elay 12 88 4, 0, 0)) (e_L 4 (0, ei_if1 1 62 7, 0, 0)))) (e_T 8 (e_T 7 (e_L 7 (0, ei_load 0 2 8, 0, 0)) (e_L 8 (0, ei_getf eft elay 12 84 11, 0, 0))) (e_T 11 (e_L 11 (0, ei_push (0, 1) 12, 0, 0)) (e_L 12 (0, ei_if2 0 58 15, 0, 0))))) (e_T 20 (e_T 16 (e_T 15 (e_L 15 (0, ei_load 0 2 16, 0, 0)) (e_L 16 (0, ei_getf eft elay 12 84 19, 0, 0))) (e_T 19 (e_L 19 (0, ei_push (0, 4) 20, 0, 0)) (e_L 20 (0, ei_if2 1 62 23, 0, 0)))) (e_T 24 (e_T 23 (e_L 23 (0, ei_load 0 2 24, 0, 0)) (e_L 24 (0, ei_getf eft elay 12 85 27, 0, 0))) (e_T 27 (e_L 27 (0, ei_un (fun x => (4, x)) 28, 0, 0)) (e_L 28 (0, ei_push (4, 3) 31, 0, 0)))))) (e_T 46 (e_T 37 (e_T 31 (e_L 31 (0, ei_push (4, 18) 34, 0, 0)) (e_T 34 (e_L 34 (2, e_nof, 266, 3)) (e_L 37 (0, ei_if1 1 58 40, 0, 0)))) (e_T 41 (e_T 40 (e_L 40 (0, ei_load 0 2 41, 0, 0)) (e_L 41 (0, ei_getf eft elay 12 85 44, 0, 0))) (e_T 44 (e_L 44 (0, ei_push (0, 20) 46, 0, 0)) (e_L 46 (0, ei_if2 0 58 49, 0, 0))))) (e_T 55 (e_T 50 (e_T 49 (e_L 49 (0, ei_load 0 2 50, 0, 0)) (e_L 50 (0, ei_getf eft elay 12 85 53, 0, 0))) (e_T 53 (e_L 53 (0, ei_push (0, 21) 55, 0, 0)) (e_L 55 (0, ei_if2 1 62 58, 0, 0)))) (e_T 59 (e_T 58 (e_L 58 (0, ei_push (0, 1) 59, 0, 0)) (e_L 59 (0, ei_goto 63, 0, 0))) (e_T 62 (e_L 62 (0, ei_push (0, 0) 63, 0, 0)) (e_L 63 (1, e_nof, 4, 0)))))))
set_option maxRecDepth 20000 in
set_option maxHeartbeats 4000000 in
theorem te_347_0_ok : ∀ pc, e_EOq eft cls elay eI n_347 pc (te_347_0 pc) :=
  (e_Tok2
  (e_Tok2
  (e_Tok2
  (e_Tok2
  (e_Lok (ld_aload_n_0 (x_dk dn_347_0_0_ok 0 rfl)))
  (e_Tok2
  (e_Lok (lk_12_530g ho_347 (x_dk dn_347_0_0_ok 1 rfl)))
  (e_Lok (e_st (I := eI) (er_ifne (off := 58) (tg := 62) (x_dk dn_347_0_0_ok 2 rfl) (by decide)) nx_if1))))
  (e_Tok2
  (e_Tok2
  (e_Lok (ld_aload_n_0 (x_dk dn_347_0_0_ok 3 rfl)))
  (e_Lok (lk_12_497g ho_347 (x_dk dn_347_0_0_ok 4 rfl))))
  (e_Tok2
  (e_Lok (ps_iconst_1 (x_dk dn_347_0_0_ok 5 rfl)))
  (e_Lok (e_st (I := eI) (er_icmpeq (off := 46) (tg := 58) (x_dk dn_347_0_0_ok 6 rfl) (by decide)) nx_if2)))))
  (e_Tok2
  (e_Tok2
  (e_Tok2
  (e_Lok (ld_aload_n_0 (x_dk dn_347_0_0_ok 7 rfl)))
  (e_Lok (lk_12_497g ho_347 (x_dk dn_347_0_0_ok 8 rfl))))
  (e_Tok2
  (e_Lok (ps_iconst_4 (x_dk dn_347_0_0_ok 9 rfl)))
  (e_Lok (e_st (I := eI) (er_icmpne (off := 42) (tg := 62) (x_dk dn_347_0_0_ok 10 rfl) (by decide)) nx_if2))))
  (e_Tok2
  (e_Tok2
  (e_Lok (ld_aload_n_0 (x_dk dn_347_0_0_ok 11 rfl)))
  (e_Lok (lk_12_494g ho_347 (x_dk dn_347_0_0_ok 12 rfl))))
  (e_Tok2
  (e_Lok (e_st (I := eI) (er_i2l (x_dk dn_347_0_0_ok 13 rfl)) (nx_un (fun _ => rfl))))
  (e_Lok (e_st (I := eI) (er_ldc2 (ix := 348) (z := 3) (v := 3) (x_dk dn_347_0_0_ok 14 rfl) (in_t11 (List.mem_of_getElem? (i := 71) rfl) rfl) (by decide)) (nx_push (Or.inl rfl))))))))
  (e_Tok2
  (e_Tok2
  (e_Tok2
  (e_Lok (e_st (I := eI) (er_ldc2 (ix := 602) (z := 18) (v := 18) (x_dk dn_347_0_0_ok 15 rfl) (in_t12 (List.mem_of_getElem? (i := 35) rfl) rfl) (by decide)) (nx_push (Or.inl rfl))))
  (e_Tok2
  (e_Lok (lk_12_301 ho_347 (x_dk dn_347_0_0_ok 16 rfl)))
  (e_Lok (e_st (I := eI) (er_ifne (off := 21) (tg := 58) (x_dk dn_347_0_0_ok 17 rfl) (by decide)) nx_if1))))
  (e_Tok2
  (e_Tok2
  (e_Lok (ld_aload_n_0 (x_dk dn_347_0_0_ok 18 rfl)))
  (e_Lok (lk_12_494g ho_347 (x_dk dn_347_0_0_ok 19 rfl))))
  (e_Tok2
  (e_Lok (ps_bipush_20 (x_dk dn_347_0_0_ok 20 rfl)))
  (e_Lok (e_st (I := eI) (er_icmpeq (off := 12) (tg := 58) (x_dk dn_347_0_0_ok 21 rfl) (by decide)) nx_if2)))))
  (e_Tok2
  (e_Tok2
  (e_Tok2
  (e_Lok (ld_aload_n_0 (x_dk dn_347_0_0_ok 22 rfl)))
  (e_Lok (lk_12_494g ho_347 (x_dk dn_347_0_0_ok 23 rfl))))
  (e_Tok2
  (e_Lok (ps_bipush_21 (x_dk dn_347_0_0_ok 24 rfl)))
  (e_Lok (e_st (I := eI) (er_icmpne (off := 7) (tg := 62) (x_dk dn_347_0_1_ok 0 rfl) (by decide)) nx_if2))))
  (e_Tok2
  (e_Tok2
  (e_Lok (ps_iconst_1 (x_dk dn_347_0_1_ok 1 rfl)))
  (e_Lok (e_st (I := eI) (er_goto (off := 4) (tg := 63) (x_dk dn_347_0_1_ok 2 rfl) (by decide)) nx_goto)))
  (e_Tok2
  (e_Lok (ps_iconst_0 (x_dk dn_347_0_1_ok 3 rfl)))
  (e_Lok (e_rt (I := eI) (k := 4) ⟨(x_dk dn_347_0_1_ok 4 rfl), rfl⟩)))))))
def te_347 : Nat → eE := te_347_0
theorem te_347_ok : ∀ pc, e_EOq eft cls elay eI n_347 pc (te_347 pc) := te_347_0_ok
theorem ho_348 : (xm_y n_348).cls = "RobotCellHouseModel" := rfl
def dn_348_0_0 : List (Nat × Instr × Nat) := [(0, .aload_n 0, 1), (1, .invokevirtual 604, 3), (4, .ifCond .eq 129, 3), (7, .aload_n 0, 1), (8, .getfield 497, 3), (11, .iconst 1, 1), (12, .if_icmp .ne 62, 3), (15, .aload_n 0, 1), (16, .bipush 30, 2), (18, .iconst 0, 1), (19, .invokevirtual 565, 3), (22, .pop, 1), (23, .aload_n 0, 1), (24, .getfield 552, 3), (27, .istore_n 1, 1), (28, .aload_n 0, 1), (29, .iconst 2, 1), (30, .iconst 0, 1), (31, .invokevirtual 595, 3), (34, .aload_n 0, 1), (35, .aload_n 0, 1), (36, .bipush 61, 2), (38, .invokevirtual 586, 3), (41, .invokevirtual 555, 3), (44, .aload_n 0, 1)]
set_option maxRecDepth 20000 in
theorem dn_348_0_0_ok : dn_348_0_0.all (fun q => decide (decode (xm_b n_348) q.1 = .ok (q.2.1, q.2.2))) = true := xa_g_ok (by decide +kernel)
def dn_348_0_1 : List (Nat × Instr × Nat) := [(45, .invokevirtual 592, 3), (48, .aload_n 0, 1), (49, .aload_n 0, 1), (50, .bipush 59, 2), (52, .invokevirtual 586, 3), (55, .invokevirtual 555, 3), (58, .aload_n 0, 1), (59, .getfield 219, 3), (62, .iload_n 1, 1), (63, .aload_n 0, 1), (64, .bipush 31, 2), (66, .iconst 0, 1), (67, .invokevirtual 565, 3), (70, .iastore, 1), (71, .goto (-71), 3), (74, .aload_n 0, 1), (75, .getfield 494, 3), (78, .bipush 18, 2), (80, .if_icmp .ne 10, 3), (83, .aload_n 0, 1), (84, .invokevirtual 608, 3), (87, .goto (-87), 3), (90, .aload_n 0, 1), (91, .getfield 494, 3), (94, .bipush 20, 2)]
set_option maxRecDepth 20000 in
theorem dn_348_0_1_ok : dn_348_0_1.all (fun q => decide (decode (xm_b n_348) q.1 = .ok (q.2.1, q.2.2))) = true := xa_g_ok (by decide +kernel)
def dn_348_0_2 : List (Nat × Instr × Nat) := [(96, .if_icmp .ne 10, 3), (99, .aload_n 0, 1), (100, .invokevirtual 611, 3), (103, .goto (-103), 3), (106, .aload_n 0, 1), (107, .getfield 494, 3), (110, .bipush 21, 2), (112, .if_icmp .ne 10, 3), (115, .aload_n 0, 1), (116, .invokevirtual 614, 3), (119, .goto (-119), 3), (122, .aload_n 0, 1), (123, .aload_n 0, 1), (124, .getfield 494, 3), (127, .invokevirtual 617, 3), (130, .goto (-130), 3), (133, .return_, 1)]
set_option maxRecDepth 20000 in
theorem dn_348_0_2_ok : dn_348_0_2.all (fun q => decide (decode (xm_b n_348) q.1 = .ok (q.2.1, q.2.2))) = true := xa_g_ok (by decide +kernel)
def te_348_0 : Nat → eE := (e_T 28 (e_T 15 (e_T 7 (e_T 1 (e_T 0 (e_L 0 (0, ei_load 0 2 1, 0, 0)) (e_L 1 (2, e_nof, 347, 1))) (e_T 4 (e_L 4 (0, ei_if1 0 133 7, 0, 0)) (e_L 7 (0, ei_load 0 2 8, 0, 0)))) (e_T 11 (e_T 8 (e_L 8 (0, ei_getf eft elay 12 84 11, 0, 0)) (e_L 11 (0, ei_push (0, 1) 12, 0, 0))) (e_T 12 (e_L 12 (0, ei_if2 1 74 15, 0, 0)) (e_L 15 (0, ei_load 0 2 16, 0, 0))))) (e_T 22 (e_T 18 (e_T 16 (e_L 16 (0, ei_push (0, 30) 18, 0, 0)) (e_L 18 (0, ei_push (0, 0) 19, 0, 0))) (e_T 19 (e_L 19 (2, e_nof, 336, 3)) (e_L 22 (0, ei_stk ef_pop 23, 0, 0)))) (e_T 24 (e_T 23 (e_L 23 (0, ei_load 0 2 24, 0, 0)) (e_L 24 (0, ei_getf eft elay 12 94 27, 0, 0))) (e_T 27 (e_L 27 (0, ei_stor 1 0 28, 0, 0)) (e_L 28 (0, ei_load 0 2 29, 0, 0)))))) (e_T 41 (e_T 34 (e_T 30 (e_T 29 (e_L 29 (0, ei_push (0, 2) 30, 0, 0)) (e_L 30 (0, ei_push (0, 0) 31, 0, 0))) (e_T 31 (e_L 31 (2, e_nof, 338, 3)) (e_L 34 (0, ei_load 0 2 35, 0, 0)))) (e_T 36 (e_T 35 (e_L 35 (0, ei_load 0 2 36, 0, 0)) (e_L 36 (0, ei_push (0, 61) 38, 0, 0))) (e_T 38 (e_L 38 (2, e_nof, 331, 2)) (e_L 41 (2, e_nof, 334, 2))))) (e_T 49 (e_T 45 (e_T 44 (e_L 44 (0, ei_load 0 2 45, 0, 0)) (e_L 45 (2, e_nof, 339, 1))) (e_T 48 (e_L 48 (0, ei_load 0 2 49, 0, 0)) (e_L 49 (0, ei_load 0 2 50, 0, 0)))) (e_T 52 (e_T 50 (e_L 50 (0, ei_push (0, 59) 52, 0, 0)) (e_L 52 (2, e_nof, 331, 2))) (e_T 55 (e_L 55 (2, e_nof, 334, 2)) (e_T 58 (e_L 58 (0, ei_load 0 2 59, 0, 0)) (e_L 59 (0, ei_getf eft elay 12 93 62, 0, 0))))))))
set_option maxRecDepth 20000 in
set_option maxHeartbeats 4000000 in
theorem te_348_0_ok : ∀ pc, e_EOq eft cls elay eI n_348 pc (te_348_0 pc) :=
  (e_Tok2
  (e_Tok2
  (e_Tok2
  (e_Tok2
  (e_Tok2
  (e_Lok (ld_aload_n_0 (x_dk dn_348_0_0_ok 0 rfl)))
  (e_Lok (lk_12_604 ho_348 (x_dk dn_348_0_0_ok 1 rfl))))
  (e_Tok2
  (e_Lok (e_st (I := eI) (er_ifeq (off := 129) (tg := 133) (x_dk dn_348_0_0_ok 2 rfl) (by decide)) nx_if1))
  (e_Lok (ld_aload_n_0 (x_dk dn_348_0_0_ok 3 rfl)))))
  (e_Tok2
  (e_Tok2
  (e_Lok (lk_12_497g ho_348 (x_dk dn_348_0_0_ok 4 rfl)))
  (e_Lok (ps_iconst_1 (x_dk dn_348_0_0_ok 5 rfl))))
  (e_Tok2
  (e_Lok (e_st (I := eI) (er_icmpne (off := 62) (tg := 74) (x_dk dn_348_0_0_ok 6 rfl) (by decide)) nx_if2))
  (e_Lok (ld_aload_n_0 (x_dk dn_348_0_0_ok 7 rfl))))))
  (e_Tok2
  (e_Tok2
  (e_Tok2
  (e_Lok (ps_bipush_30 (x_dk dn_348_0_0_ok 8 rfl)))
  (e_Lok (ps_iconst_0 (x_dk dn_348_0_0_ok 9 rfl))))
  (e_Tok2
  (e_Lok (lk_12_565 ho_348 (x_dk dn_348_0_0_ok 10 rfl)))
  (e_Lok (e_st (I := eI) (er_pop (x_dk dn_348_0_0_ok 11 rfl)) (nx_stk bf_pop)))))
  (e_Tok2
  (e_Tok2
  (e_Lok (ld_aload_n_0 (x_dk dn_348_0_0_ok 12 rfl)))
  (e_Lok (lk_12_552g ho_348 (x_dk dn_348_0_0_ok 13 rfl))))
  (e_Tok2
  (e_Lok (e_st (I := eI) (er_istore_n (i := 1) (x_dk dn_348_0_0_ok 14 rfl) (by decide +kernel)) nx_stor))
  (e_Lok (ld_aload_n_0 (x_dk dn_348_0_0_ok 15 rfl)))))))
  (e_Tok2
  (e_Tok2
  (e_Tok2
  (e_Tok2
  (e_Lok (ps_iconst_2 (x_dk dn_348_0_0_ok 16 rfl)))
  (e_Lok (ps_iconst_0 (x_dk dn_348_0_0_ok 17 rfl))))
  (e_Tok2
  (e_Lok (lk_12_595 ho_348 (x_dk dn_348_0_0_ok 18 rfl)))
  (e_Lok (ld_aload_n_0 (x_dk dn_348_0_0_ok 19 rfl)))))
  (e_Tok2
  (e_Tok2
  (e_Lok (ld_aload_n_0 (x_dk dn_348_0_0_ok 20 rfl)))
  (e_Lok (ps_bipush_61 (x_dk dn_348_0_0_ok 21 rfl))))
  (e_Tok2
  (e_Lok (lk_12_586 ho_348 (x_dk dn_348_0_0_ok 22 rfl)))
  (e_Lok (lk_12_555 ho_348 (x_dk dn_348_0_0_ok 23 rfl))))))
  (e_Tok2
  (e_Tok2
  (e_Tok2
  (e_Lok (ld_aload_n_0 (x_dk dn_348_0_0_ok 24 rfl)))
  (e_Lok (lk_12_592 ho_348 (x_dk dn_348_0_1_ok 0 rfl))))
  (e_Tok2
  (e_Lok (ld_aload_n_0 (x_dk dn_348_0_1_ok 1 rfl)))
  (e_Lok (ld_aload_n_0 (x_dk dn_348_0_1_ok 2 rfl)))))
  (e_Tok2
  (e_Tok2
  (e_Lok (ps_bipush_59 (x_dk dn_348_0_1_ok 3 rfl)))
  (e_Lok (lk_12_586 ho_348 (x_dk dn_348_0_1_ok 4 rfl))))
  (e_Tok2
  (e_Lok (lk_12_555 ho_348 (x_dk dn_348_0_1_ok 5 rfl)))
  (e_Tok2
  (e_Lok (ld_aload_n_0 (x_dk dn_348_0_1_ok 6 rfl)))
  (e_Lok (lk_12_219g ho_348 (x_dk dn_348_0_1_ok 7 rfl)))))))))
def te_348_33 : Nat → eE := (e_T 94 (e_T 74 (e_T 66 (e_T 63 (e_T 62 (e_L 62 (0, ei_load 1 0 63, 0, 0)) (e_L 63 (0, ei_load 0 2 64, 0, 0))) (e_T 64 (e_L 64 (0, ei_push (0, 31) 66, 0, 0)) (e_L 66 (0, ei_push (0, 0) 67, 0, 0)))) (e_T 70 (e_T 67 (e_L 67 (2, e_nof, 336, 3)) (e_L 70 (0, ei_ast elay false 71, 0, 0))) (e_T 71 (e_L 71 (0, ei_goto 0, 0, 0)) (e_L 74 (0, ei_load 0 2 75, 0, 0))))) (e_T 83 (e_T 78 (e_T 75 (e_L 75 (0, ei_getf eft elay 12 85 78, 0, 0)) (e_L 78 (0, ei_push (0, 18) 80, 0, 0))) (e_T 80 (e_L 80 (0, ei_if2 1 90 83, 0, 0)) (e_L 83 (0, ei_load 0 2 84, 0, 0)))) (e_T 87 (e_T 84 (e_L 84 (2, e_nof, 350, 1)) (e_L 87 (0, ei_goto 0, 0, 0))) (e_T 90 (e_L 90 (0, ei_load 0 2 91, 0, 0)) (e_T 91 (e_L 91 (0, ei_getf eft elay 12 85 94, 0, 0)) (e_L 94 (0, ei_push (0, 20) 96, 0, 0))))))) (e_T 112 (e_T 103 (e_T 99 (e_T 96 (e_L 96 (0, ei_if2 1 106 99, 0, 0)) (e_L 99 (0, ei_load 0 2 100, 0, 0))) (e_T 100 (e_L 100 (2, e_nof, 351, 1)) (e_L 103 (0, ei_goto 0, 0, 0)))) (e_T 107 (e_T 106 (e_L 106 (0, ei_load 0 2 107, 0, 0)) (e_L 107 (0, ei_getf eft elay 12 85 110, 0, 0))) (e_T 110 (e_L 110 (0, ei_push (0, 21) 112, 0, 0)) (e_L 112 (0, ei_if2 1 122 115, 0, 0))))) (e_T 122 (e_T 116 (e_T 115 (e_L 115 (0, ei_load 0 2 116, 0, 0)) (e_L 116 (2, e_nof, 352, 1))) (e_T 119 (e_L 119 (0, ei_goto 0, 0, 0)) (e_L 122 (0, ei_load 0 2 123, 0, 0)))) (e_T 124 (e_T 123 (e_L 123 (0, ei_load 0 2 124, 0, 0)) (e_L 124 (0, ei_getf eft elay 12 85 127, 0, 0))) (e_T 127 (e_L 127 (2, e_nof, 349, 2)) (e_T 130 (e_L 130 (0, ei_goto 0, 0, 0)) (e_L 133 (1, e_nof, 0, 0))))))))
set_option maxRecDepth 20000 in
set_option maxHeartbeats 4000000 in
theorem te_348_33_ok : ∀ pc, e_EOq eft cls elay eI n_348 pc (te_348_33 pc) :=
  (e_Tok2
  (e_Tok2
  (e_Tok2
  (e_Tok2
  (e_Tok2
  (e_Lok (ld_iload_n_1 (x_dk dn_348_0_1_ok 8 rfl)))
  (e_Lok (ld_aload_n_0 (x_dk dn_348_0_1_ok 9 rfl))))
  (e_Tok2
  (e_Lok (ps_bipush_31 (x_dk dn_348_0_1_ok 10 rfl)))
  (e_Lok (ps_iconst_0 (x_dk dn_348_0_1_ok 11 rfl)))))
  (e_Tok2
  (e_Tok2
  (e_Lok (lk_12_565 ho_348 (x_dk dn_348_0_1_ok 12 rfl)))
  (e_Lok (sm_iastore (x_dk dn_348_0_1_ok 13 rfl))))
  (e_Tok2
  (e_Lok (e_st (I := eI) (er_goto (off := (-71)) (tg := 0) (x_dk dn_348_0_1_ok 14 rfl) (by decide)) nx_goto))
  (e_Lok (ld_aload_n_0 (x_dk dn_348_0_1_ok 15 rfl))))))
  (e_Tok2
  (e_Tok2
  (e_Tok2
  (e_Lok (lk_12_494g ho_348 (x_dk dn_348_0_1_ok 16 rfl)))
  (e_Lok (ps_bipush_18 (x_dk dn_348_0_1_ok 17 rfl))))
  (e_Tok2
  (e_Lok (e_st (I := eI) (er_icmpne (off := 10) (tg := 90) (x_dk dn_348_0_1_ok 18 rfl) (by decide)) nx_if2))
  (e_Lok (ld_aload_n_0 (x_dk dn_348_0_1_ok 19 rfl)))))
  (e_Tok2
  (e_Tok2
  (e_Lok (lk_12_608 ho_348 (x_dk dn_348_0_1_ok 20 rfl)))
  (e_Lok (e_st (I := eI) (er_goto (off := (-87)) (tg := 0) (x_dk dn_348_0_1_ok 21 rfl) (by decide)) nx_goto)))
  (e_Tok2
  (e_Lok (ld_aload_n_0 (x_dk dn_348_0_1_ok 22 rfl)))
  (e_Tok2
  (e_Lok (lk_12_494g ho_348 (x_dk dn_348_0_1_ok 23 rfl)))
  (e_Lok (ps_bipush_20 (x_dk dn_348_0_1_ok 24 rfl))))))))
  (e_Tok2
  (e_Tok2
  (e_Tok2
  (e_Tok2
  (e_Lok (e_st (I := eI) (er_icmpne (off := 10) (tg := 106) (x_dk dn_348_0_2_ok 0 rfl) (by decide)) nx_if2))
  (e_Lok (ld_aload_n_0 (x_dk dn_348_0_2_ok 1 rfl))))
  (e_Tok2
  (e_Lok (lk_12_611 ho_348 (x_dk dn_348_0_2_ok 2 rfl)))
  (e_Lok (e_st (I := eI) (er_goto (off := (-103)) (tg := 0) (x_dk dn_348_0_2_ok 3 rfl) (by decide)) nx_goto))))
  (e_Tok2
  (e_Tok2
  (e_Lok (ld_aload_n_0 (x_dk dn_348_0_2_ok 4 rfl)))
  (e_Lok (lk_12_494g ho_348 (x_dk dn_348_0_2_ok 5 rfl))))
  (e_Tok2
  (e_Lok (ps_bipush_21 (x_dk dn_348_0_2_ok 6 rfl)))
  (e_Lok (e_st (I := eI) (er_icmpne (off := 10) (tg := 122) (x_dk dn_348_0_2_ok 7 rfl) (by decide)) nx_if2)))))
  (e_Tok2
  (e_Tok2
  (e_Tok2
  (e_Lok (ld_aload_n_0 (x_dk dn_348_0_2_ok 8 rfl)))
  (e_Lok (lk_12_614 ho_348 (x_dk dn_348_0_2_ok 9 rfl))))
  (e_Tok2
  (e_Lok (e_st (I := eI) (er_goto (off := (-119)) (tg := 0) (x_dk dn_348_0_2_ok 10 rfl) (by decide)) nx_goto))
  (e_Lok (ld_aload_n_0 (x_dk dn_348_0_2_ok 11 rfl)))))
  (e_Tok2
  (e_Tok2
  (e_Lok (ld_aload_n_0 (x_dk dn_348_0_2_ok 12 rfl)))
  (e_Lok (lk_12_494g ho_348 (x_dk dn_348_0_2_ok 13 rfl))))
  (e_Tok2
  (e_Lok (lk_12_617 ho_348 (x_dk dn_348_0_2_ok 14 rfl)))
  (e_Tok2
  (e_Lok (e_st (I := eI) (er_goto (off := (-130)) (tg := 0) (x_dk dn_348_0_2_ok 15 rfl) (by decide)) nx_goto))
  (e_Lok (e_rt (I := eI) (k := 0) ⟨(x_dk dn_348_0_2_ok 16 rfl), rfl⟩))))))))
def te_348 : Nat → eE := (e_T 59 te_348_0 te_348_33)
theorem te_348_ok : ∀ pc, e_EOq eft cls elay eI n_348 pc (te_348 pc) := (e_Tok2 (te_348_0_ok) (te_348_33_ok))
theorem ho_349 : (xm_y n_349).cls = "RobotCellHouseModel" := rfl
def dn_349_0_0 : List (Nat × Instr × Nat) := [(0, .aload_n 0, 1), (1, .bipush 30, 2), (3, .iconst 0, 1), (4, .invokevirtual 565, 3), (7, .pop, 1), (8, .aload_n 0, 1), (9, .getfield 546, 3), (12, .istore_n 2, 1), (13, .iload_n 1, 1), (14, .bipush 17, 2), (16, .if_icmp .ne 53, 3), (19, .aload_n 0, 1), (20, .getfield 620, 3), (23, .ifCond .ge 46, 3), (26, .aload_n 0, 1), (27, .getfield 210, 3), (30, .aload_n 0, 1), (31, .getfield 552, 3), (34, .iconst 4, 1), (35, .iastore, 1), (36, .aload_n 0, 1), (37, .getfield 213, 3), (40, .aload_n 0, 1), (41, .getfield 552, 3), (44, .aload_n 0, 1)]
set_option maxRecDepth 20000 in
theorem dn_349_0_0_ok : dn_349_0_0.all (fun q => decide (decode (xm_b n_349) q.1 = .ok (q.2.1, q.2.2))) = true := xa_g_ok (by decide +kernel)
def dn_349_0_1 : List (Nat × Instr × Nat) := [(45, .getfield 491, 3), (48, .iastore, 1), (49, .aload_n 0, 1), (50, .getfield 216, 3), (53, .aload_n 0, 1), (54, .getfield 552, 3), (57, .iconst 5, 1), (58, .iastore, 1), (59, .aload_n 0, 1), (60, .dup, 1), (61, .getfield 552, 3), (64, .iconst 1, 1), (65, .iadd, 1), (66, .putfield 552, 3), (69, .aload_n 0, 1), (70, .invokevirtual 536, 3), (73, .iload_n 1, 1), (74, .tableswitch 256 3 17 #[74, 256, 256, 121, 256, 256, 150, 165, 256, 256, 209, 220, 180, 231, 242], 74), (148, .aload_n 0, 1), (149, .invokevirtual 592, 3), (152, .iconst 1, 1), (153, .istore_n 3, 1), (154, .aload_n 0, 1), (155, .getfield 530, 3), (158, .ifCond .ne 26, 3)]
set_option maxRecDepth 20000 in
theorem dn_349_0_1_ok : dn_349_0_1.all (fun q => decide (decode (xm_b n_349) q.1 = .ok (q.2.1, q.2.2))) = true := xa_g_ok (by decide +kernel)
def dn_349_0_2 : List (Nat × Instr × Nat) := [(161, .aload_n 0, 1), (162, .bipush 44, 2), (164, .invokevirtual 586, 3), (167, .ifCond .eq 17, 3), (170, .aload_n 0, 1), (171, .invokevirtual 536, 3), (174, .aload_n 0, 1), (175, .invokevirtual 592, 3), (178, .iinc 3 1, 3), (181, .goto (-27), 3), (184, .aload_n 0, 1), (185, .bipush 32, 2), (187, .iload_n 3, 1), (188, .invokevirtual 565, 3), (191, .pop, 1), (192, .goto 203, 3), (195, .aload_n 0, 1), (196, .invokevirtual 592, 3), (199, .aload_n 0, 1), (200, .aload_n 0, 1), (201, .bipush 44, 2), (203, .invokevirtual 586, 3), (206, .invokevirtual 555, 3), (209, .aload_n 0, 1), (210, .invokevirtual 592, 3)]
set_option maxRecDepth 20000 in
theorem dn_349_0_2_ok : dn_349_0_2.all (fun q => decide (decode (xm_b n_349) q.1 = .ok (q.2.1, q.2.2))) = true := xa_g_ok (by decide +kernel)
def dn_349_0_3 : List (Nat × Instr × Nat) := [(213, .aload_n 0, 1), (214, .bipush 35, 2), (216, .iconst 0, 1), (217, .invokevirtual 565, 3), (220, .pop, 1), (221, .goto 174, 3), (224, .aload_n 0, 1), (225, .iconst 3, 1), (226, .aload_n 0, 1), (227, .bipush 38, 2), (229, .iconst 0, 1), (230, .invokevirtual 565, 3), (233, .invokevirtual 595, 3), (236, .goto 159, 3), (239, .aload_n 0, 1), (240, .iconst 3, 1), (241, .aload_n 0, 1), (242, .bipush 39, 2), (244, .iconst 0, 1), (245, .invokevirtual 565, 3), (248, .invokevirtual 595, 3), (251, .goto 144, 3), (254, .aload_n 0, 1), (255, .invokevirtual 592, 3), (258, .aload_n 0, 1)]
set_option maxRecDepth 20000 in
theorem dn_349_0_3_ok : dn_349_0_3.all (fun q => decide (decode (xm_b n_349) q.1 = .ok (q.2.1, q.2.2))) = true := xa_g_ok (by decide +kernel)
def dn_349_1_0 : List (Nat × Instr × Nat) := [(259, .aload_n 0, 1), (260, .bipush 44, 2), (262, .invokevirtual 586, 3), (265, .invokevirtual 555, 3), (268, .aload_n 0, 1), (269, .iconst 3, 1), (270, .aload_n 0, 1), (271, .bipush 44, 2), (273, .iconst 0, 1), (274, .invokevirtual 565, 3), (277, .invokevirtual 595, 3), (280, .goto 115, 3), (283, .aload_n 0, 1), (284, .bipush 42, 2), (286, .iconst 0, 1), (287, .invokevirtual 565, 3), (290, .pop, 1), (291, .goto 104, 3), (294, .aload_n 0, 1), (295, .bipush 43, 2), (297, .iconst 0, 1), (298, .invokevirtual 565, 3), (301, .pop, 1), (302, .goto 93, 3), (305, .aload_n 0, 1)]
set_option maxRecDepth 20000 in
theorem dn_349_1_0_ok : dn_349_1_0.all (fun q => decide (decode (xm_b n_349) q.1 = .ok (q.2.1, q.2.2))) = true := xa_g_ok (by decide +kernel)
def dn_349_1_1 : List (Nat × Instr × Nat) := [(306, .bipush 45, 2), (308, .iconst 0, 1), (309, .invokevirtual 565, 3), (312, .pop, 1), (313, .goto 82, 3), (316, .aload_n 0, 1), (317, .bipush 46, 2), (319, .aload_n 0, 1), (320, .getfield 620, 3), (323, .invokevirtual 565, 3), (326, .pop, 1), (327, .goto 68, 3), (330, .aload_n 0, 1), (331, .invokevirtual 592, 3), (334, .aload_n 0, 1), (335, .iload_n 1, 1), (336, .iconst 4, 1), (337, .if_icmp .ne 8, 3), (340, .bipush 33, 2), (342, .goto 48, 3), (345, .iload_n 1, 1), (346, .iconst 5, 1), (347, .if_icmp .ne 8, 3), (350, .bipush 34, 2), (352, .goto 38, 3)]
set_option maxRecDepth 20000 in
theorem dn_349_1_1_ok : dn_349_1_1.all (fun q => decide (decode (xm_b n_349) q.1 = .ok (q.2.1, q.2.2))) = true := xa_g_ok (by decide +kernel)
def dn_349_1_2 : List (Nat × Instr × Nat) := [(355, .iload_n 1, 1), (356, .bipush 7, 2), (358, .if_icmp .ne 8, 3), (361, .bipush 36, 2), (363, .goto 27, 3), (366, .iload_n 1, 1), (367, .bipush 8, 2), (369, .if_icmp .ne 8, 3), (372, .bipush 37, 2), (374, .goto 16, 3), (377, .iload_n 1, 1), (378, .bipush 11, 2), (380, .if_icmp .ne 8, 3), (383, .bipush 40, 2), (385, .goto 5, 3), (388, .bipush 41, 2), (390, .iload_n 2, 1), (391, .invokevirtual 565, 3), (394, .pop, 1), (395, .aload_n 0, 1), (396, .aload_n 0, 1), (397, .bipush 59, 2), (399, .invokevirtual 586, 3), (402, .invokevirtual 555, 3), (405, .return_, 1)]
set_option maxRecDepth 20000 in
theorem dn_349_1_2_ok : dn_349_1_2.all (fun q => decide (decode (xm_b n_349) q.1 = .ok (q.2.1, q.2.2))) = true := xa_g_ok (by decide +kernel)
def te_349_0 : Nat → eE := (e_T 14 (e_T 7 (e_T 1 (e_T 0 (e_L 0 (0, ei_load 0 2 1, 0, 0)) (e_L 1 (0, ei_push (0, 30) 3, 0, 0))) (e_T 3 (e_L 3 (0, ei_push (0, 0) 4, 0, 0)) (e_T 4 (e_L 4 (2, e_nof, 336, 3)) (e_L 7 (0, ei_stk ef_pop 8, 0, 0))))) (e_T 9 (e_T 8 (e_L 8 (0, ei_load 0 2 9, 0, 0)) (e_L 9 (0, ei_getf eft elay 12 78 12, 0, 0))) (e_T 12 (e_L 12 (0, ei_stor 2 0 13, 0, 0)) (e_T 13 (e_L 13 (0, ei_load 1 0 14, 0, 0)) (e_L 14 (0, ei_push (0, 17) 16, 0, 0)))))) (e_T 26 (e_T 19 (e_T 16 (e_L 16 (0, ei_if2 1 69 19, 0, 0)) (e_L 19 (0, ei_load 0 2 20, 0, 0))) (e_T 20 (e_L 20 (0, ei_getf eft elay 12 82 23, 0, 0)) (e_T 23 (e_L 23 (0, ei_if1 3 69 26, 0, 0)) (e_L 26 (0, ei_load 0 2 27, 0, 0))))) (e_T 31 (e_T 27 (e_L 27 (0, ei_getf eft elay 12 90 30, 0, 0)) (e_T 30 (e_L 30 (0, ei_load 0 2 31, 0, 0)) (e_L 31 (0, ei_getf eft elay 12 94 34, 0, 0)))) (e_T 34 (e_L 34 (0, ei_push (0, 4) 35, 0, 0)) (e_T 35 (e_L 35 (0, ei_ast elay false 36, 0, 0)) (e_L 36 (0, ei_load 0 2 37, 0, 0)))))))
set_option maxRecDepth 20000 in
set_option maxHeartbeats 4000000 in
theorem te_349_0_ok : ∀ pc, e_EOq eft cls elay eI n_349 pc (te_349_0 pc) :=
  (e_Tok2
  (e_Tok2
  (e_Tok2
  (e_Tok2
  (e_Lok (ld_aload_n_0 (x_dk dn_349_0_0_ok 0 rfl)))
  (e_Lok (ps_bipush_30 (x_dk dn_349_0_0_ok 1 rfl))))
  (e_Tok2
  (e_Lok (ps_iconst_0 (x_dk dn_349_0_0_ok 2 rfl)))
  (e_Tok2
  (e_Lok (lk_12_565 ho_349 (x_dk dn_349_0_0_ok 3 rfl)))
  (e_Lok (e_st (I := eI) (er_pop (x_dk dn_349_0_0_ok 4 rfl)) (nx_stk bf_pop))))))
  (e_Tok2
  (e_Tok2
  (e_Lok (ld_aload_n_0 (x_dk dn_349_0_0_ok 5 rfl)))
  (e_Lok (lk_12_546g ho_349 (x_dk dn_349_0_0_ok 6 rfl))))
  (e_Tok2
  (e_Lok (e_st (I := eI) (er_istore_n (i := 2) (x_dk dn_349_0_0_ok 7 rfl) (by decide +kernel)) nx_stor))
  (e_Tok2
  (e_Lok (ld_iload_n_1 (x_dk dn_349_0_0_ok 8 rfl)))
  (e_Lok (ps_bipush_17 (x_dk dn_349_0_0_ok 9 rfl)))))))
  (e_Tok2
  (e_Tok2
  (e_Tok2
  (e_Lok (e_st (I := eI) (er_icmpne (off := 53) (tg := 69) (x_dk dn_349_0_0_ok 10 rfl) (by decide)) nx_if2))
  (e_Lok (ld_aload_n_0 (x_dk dn_349_0_0_ok 11 rfl))))
  (e_Tok2
  (e_Lok (lk_12_620g ho_349 (x_dk dn_349_0_0_ok 12 rfl)))
  (e_Tok2
  (e_Lok (e_st (I := eI) (er_ifge (off := 46) (tg := 69) (x_dk dn_349_0_0_ok 13 rfl) (by decide)) nx_if1))
  (e_Lok (ld_aload_n_0 (x_dk dn_349_0_0_ok 14 rfl))))))
  (e_Tok2
  (e_Tok2
  (e_Lok (lk_12_210g ho_349 (x_dk dn_349_0_0_ok 15 rfl)))
  (e_Tok2
  (e_Lok (ld_aload_n_0 (x_dk dn_349_0_0_ok 16 rfl)))
  (e_Lok (lk_12_552g ho_349 (x_dk dn_349_0_0_ok 17 rfl)))))
  (e_Tok2
  (e_Lok (ps_iconst_4 (x_dk dn_349_0_0_ok 18 rfl)))
  (e_Tok2
  (e_Lok (sm_iastore (x_dk dn_349_0_0_ok 19 rfl)))
  (e_Lok (ld_aload_n_0 (x_dk dn_349_0_0_ok 20 rfl))))))))
def te_349_21 : Nat → eE := (e_T 57 (e_T 45 (e_T 40 (e_T 37 (e_L 37 (0, ei_getf eft elay 12 91 40, 0, 0)) (e_L 40 (0, ei_load 0 2 41, 0, 0))) (e_T 41 (e_L 41 (0, ei_getf eft elay 12 94 44, 0, 0)) (e_T 44 (e_L 44 (0, ei_load 0 2 45, 0, 0)) (e_L 45 (0, ei_getf eft elay 12 86 48, 0, 0))))) (e_T 50 (e_T 48 (e_L 48 (0, ei_ast elay false 49, 0, 0)) (e_T 49 (e_L 49 (0, ei_load 0 2 50, 0, 0)) (e_L 50 (0, ei_getf eft elay 12 92 53, 0, 0)))) (e_T 53 (e_L 53 (0, ei_load 0 2 54, 0, 0)) (e_T 54 (e_L 54 (0, ei_getf eft elay 12 94 57, 0, 0)) (e_L 57 (0, ei_push (0, 5) 58, 0, 0)))))) (e_T 64 (e_T 59 (e_T 58 (e_L 58 (0, ei_ast elay false 59, 0, 0)) (e_L 59 (0, ei_load 0 2 60, 0, 0))) (e_T 60 (e_L 60 (0, ei_stk ef_dup 61, 0, 0)) (e_T 61 (e_L 61 (0, ei_getf eft elay 12 94 64, 0, 0)) (e_L 64 (0, ei_push (0, 1) 65, 0, 0))))) (e_T 69 (e_T 65 (e_L 65 (0, ei_bin eF_add 66, 0, 0)) (e_T 66 (e_L 66 (0, ei_putf eft elay 12 94 0 69, 0, 0)) (e_L 69 (0, ei_load 0 2 70, 0, 0)))) (e_T 70 (e_L 70 (2, e_nof, 327, 1)) (e_T 73 (e_L 73 (0, ei_load 1 0 74, 0, 0)) (e_L 74 (0, ei_sw [((-2147483648), 2, 330), (3, 3, 148), (4, 4, 330), (5, 5, 330), (6, 6, 195), (7, 7, 330), (8, 8, 330), (9, 9, 224), (10, 10, 239), (11, 11, 330), (12, 12, 330), (13, 13, 283), (14, 14, 294), (15, 15, 254), (16, 16, 305), (17, 17, 316), (18, 2147483647, 330)], 0, 0)))))))
set_option maxRecDepth 20000 in
set_option maxHeartbeats 4000000 in
theorem te_349_21_ok : ∀ pc, e_EOq eft cls elay eI n_349 pc (te_349_21 pc) :=
  (e_Tok2
  (e_Tok2
  (e_Tok2
  (e_Tok2
  (e_Lok (lk_12_213g ho_349 (x_dk dn_349_0_0_ok 21 rfl)))
  (e_Lok (ld_aload_n_0 (x_dk dn_349_0_0_ok 22 rfl))))
  (e_Tok2
  (e_Lok (lk_12_552g ho_349 (x_dk dn_349_0_0_ok 23 rfl)))
  (e_Tok2
  (e_Lok (ld_aload_n_0 (x_dk dn_349_0_0_ok 24 rfl)))
  (e_Lok (lk_12_491g ho_349 (x_dk dn_349_0_1_ok 0 rfl))))))
  (e_Tok2
  (e_Tok2
  (e_Lok (sm_iastore (x_dk dn_349_0_1_ok 1 rfl)))
  (e_Tok2
  (e_Lok (ld_aload_n_0 (x_dk dn_349_0_1_ok 2 rfl)))
  (e_Lok (lk_12_216g ho_349 (x_dk dn_349_0_1_ok 3 rfl)))))
  (e_Tok2
  (e_Lok (ld_aload_n_0 (x_dk dn_349_0_1_ok 4 rfl)))
  (e_Tok2
  (e_Lok (lk_12_552g ho_349 (x_dk dn_349_0_1_ok 5 rfl)))
  (e_Lok (ps_iconst_5 (x_dk dn_349_0_1_ok 6 rfl)))))))
  (e_Tok2
  (e_Tok2
  (e_Tok2
  (e_Lok (sm_iastore (x_dk dn_349_0_1_ok 7 rfl)))
  (e_Lok (ld_aload_n_0 (x_dk dn_349_0_1_ok 8 rfl))))
  (e_Tok2
  (e_Lok (e_st (I := eI) (er_dup (x_dk dn_349_0_1_ok 9 rfl)) (nx_stk bf_dup)))
  (e_Tok2
  (e_Lok (lk_12_552g ho_349 (x_dk dn_349_0_1_ok 10 rfl)))
  (e_Lok (ps_iconst_1 (x_dk dn_349_0_1_ok 11 rfl))))))
  (e_Tok2
  (e_Tok2
  (e_Lok (sm_iadd (x_dk dn_349_0_1_ok 12 rfl)))
  (e_Tok2
  (e_Lok (lk_12_552p ho_349 (x_dk dn_349_0_1_ok 13 rfl)))
  (e_Lok (ld_aload_n_0 (x_dk dn_349_0_1_ok 14 rfl)))))
  (e_Tok2
  (e_Lok (lk_12_536 ho_349 (x_dk dn_349_0_1_ok 15 rfl)))
  (e_Tok2
  (e_Lok (ld_iload_n_1 (x_dk dn_349_0_1_ok 16 rfl)))
  (e_Lok (e_st (I := eI) (er_tsw (dflt := 256) (lo := 3) (hi := 17) (offs := #[74, 256, 256, 121, 256, 256, 150, 165, 256, 256, 209, 220, 180, 231, 242]) (len := 74) (n := 15) (x_dk dn_349_0_1_ok 17 rfl) (by decide) (by decide +kernel)) nx_sw)))))))
def te_349_43 : Nat → eE := (e_T 167 (e_T 154 (e_T 149 (e_T 148 (e_L 148 (0, ei_load 0 2 149, 0, 0)) (e_L 149 (2, e_nof, 339, 1))) (e_T 152 (e_L 152 (0, ei_push (0, 1) 153, 0, 0)) (e_T 153 (e_L 153 (0, ei_stor 3 0 154, 0, 0)) (e_L 154 (0, ei_load 0 2 155, 0, 0))))) (e_T 161 (e_T 155 (e_L 155 (0, ei_getf eft elay 12 88 158, 0, 0)) (e_T 158 (e_L 158 (0, ei_if1 1 184 161, 0, 0)) (e_L 161 (0, ei_load 0 2 162, 0, 0)))) (e_T 162 (e_L 162 (0, ei_push (0, 44) 164, 0, 0)) (e_T 164 (e_L 164 (2, e_nof, 331, 2)) (e_L 167 (0, ei_if1 0 184 170, 0, 0)))))) (e_T 178 (e_T 171 (e_T 170 (e_L 170 (0, ei_load 0 2 171, 0, 0)) (e_L 171 (2, e_nof, 327, 1))) (e_T 174 (e_L 174 (0, ei_load 0 2 175, 0, 0)) (e_T 175 (e_L 175 (2, e_nof, 339, 1)) (e_L 178 (0, ei_inc 3 1 181, 0, 0))))) (e_T 185 (e_T 181 (e_L 181 (0, ei_goto 154, 0, 0)) (e_T 184 (e_L 184 (0, ei_load 0 2 185, 0, 0)) (e_L 185 (0, ei_push (0, 32) 187, 0, 0)))) (e_T 187 (e_L 187 (0, ei_load 3 0 188, 0, 0)) (e_T 188 (e_L 188 (2, e_nof, 336, 3)) (e_L 191 (0, ei_stk ef_pop 192, 0, 0)))))))
set_option maxRecDepth 20000 in
set_option maxHeartbeats 4000000 in
theorem te_349_43_ok : ∀ pc, e_EOq eft cls elay eI n_349 pc (te_349_43 pc) :=
  (e_Tok2
  (e_Tok2
  (e_Tok2
  (e_Tok2
  (e_Lok (ld_aload_n_0 (x_dk dn_349_0_1_ok 18 rfl)))
  (e_Lok (lk_12_592 ho_349 (x_dk dn_349_0_1_ok 19 rfl))))
  (e_Tok2
  (e_Lok (ps_iconst_1 (x_dk dn_349_0_1_ok 20 rfl)))
  (e_Tok2
  (e_Lok (e_st (I := eI) (er_istore_n (i := 3) (x_dk dn_349_0_1_ok 21 rfl) (by decide +kernel)) nx_stor))
  (e_Lok (ld_aload_n_0 (x_dk dn_349_0_1_ok 22 rfl))))))
  (e_Tok2
  (e_Tok2
  (e_Lok (lk_12_530g ho_349 (x_dk dn_349_0_1_ok 23 rfl)))
  (e_Tok2
  (e_Lok (e_st (I := eI) (er_ifne (off := 26) (tg := 184) (x_dk dn_349_0_1_ok 24 rfl) (by decide)) nx_if1))
  (e_Lok (ld_aload_n_0 (x_dk dn_349_0_2_ok 0 rfl)))))
  (e_Tok2
  (e_Lok (ps_bipush_44 (x_dk dn_349_0_2_ok 1 rfl)))
  (e_Tok2
  (e_Lok (lk_12_586 ho_349 (x_dk dn_349_0_2_ok 2 rfl)))
  (e_Lok (e_st (I := eI) (er_ifeq (off := 17) (tg := 184) (x_dk dn_349_0_2_ok 3 rfl) (by decide)) nx_if1))))))
  (e_Tok2
  (e_Tok2
  (e_Tok2
  (e_Lok (ld_aload_n_0 (x_dk dn_349_0_2_ok 4 rfl)))
  (e_Lok (lk_12_536 ho_349 (x_dk dn_349_0_2_ok 5 rfl))))
  (e_Tok2
  (e_Lok (ld_aload_n_0 (x_dk dn_349_0_2_ok 6 rfl)))
  (e_Tok2
  (e_Lok (lk_12_592 ho_349 (x_dk dn_349_0_2_ok 7 rfl)))
  (e_Lok (e_st (I := eI) (er_iinc (i := 3) (n := 1) (x_dk dn_349_0_2_ok 8 rfl) (by decide +kernel) (by decide)) nx_inc)))))
  (e_Tok2
  (e_Tok2
  (e_Lok (e_st (I := eI) (er_goto (off := (-27)) (tg := 154) (x_dk dn_349_0_2_ok 9 rfl) (by decide)) nx_goto))
  (e_Tok2
  (e_Lok (ld_aload_n_0 (x_dk dn_349_0_2_ok 10 rfl)))
  (e_Lok (ps_bipush_32 (x_dk dn_349_0_2_ok 11 rfl)))))
  (e_Tok2
  (e_Lok (ld_iload_n_3 (x_dk dn_349_0_2_ok 12 rfl)))
  (e_Tok2
  (e_Lok (lk_12_565 ho_349 (x_dk dn_349_0_2_ok 13 rfl)))
  (e_Lok (e_st (I := eI) (er_pop (x_dk dn_349_0_2_ok 14 rfl)) (nx_stk bf_pop))))))))
def te_349_65 : Nat → eE := (e_T 213 (e_T 200 (e_T 195 (e_T 192 (e_L 192 (0, ei_goto 395, 0, 0)) (e_L 195 (0, ei_load 0 2 196, 0, 0))) (e_T 196 (e_L 196 (2, e_nof, 339, 1)) (e_T 199 (e_L 199 (0, ei_load 0 2 200, 0, 0)) (e_L 200 (0, ei_load 0 2 201, 0, 0))))) (e_T 206 (e_T 201 (e_L 201 (0, ei_push (0, 44) 203, 0, 0)) (e_T 203 (e_L 203 (2, e_nof, 331, 2)) (e_L 206 (2, e_nof, 334, 2)))) (e_T 209 (e_L 209 (0, ei_load 0 2 210, 0, 0)) (e_T 210 (e_L 210 (2, e_nof, 339, 1)) (e_L 213 (0, ei_load 0 2 214, 0, 0)))))) (e_T 221 (e_T 216 (e_T 214 (e_L 214 (0, ei_push (0, 35) 216, 0, 0)) (e_L 216 (0, ei_push (0, 0) 217, 0, 0))) (e_T 217 (e_L 217 (2, e_nof, 336, 3)) (e_T 220 (e_L 220 (0, ei_stk ef_pop 221, 0, 0)) (e_L 221 (0, ei_goto 395, 0, 0))))) (e_T 226 (e_T 224 (e_L 224 (0, ei_load 0 2 225, 0, 0)) (e_T 225 (e_L 225 (0, ei_push (0, 3) 226, 0, 0)) (e_L 226 (0, ei_load 0 2 227, 0, 0)))) (e_T 227 (e_L 227 (0, ei_push (0, 38) 229, 0, 0)) (e_T 229 (e_L 229 (0, ei_push (0, 0) 230, 0, 0)) (e_L 230 (2, e_nof, 336, 3)))))))
set_option maxRecDepth 20000 in
set_option maxHeartbeats 4000000 in
theorem te_349_65_ok : ∀ pc, e_EOq eft cls elay eI n_349 pc (te_349_65 pc) :=
  (e_Tok2
  (e_Tok2
  (e_Tok2
  (e_Tok2
  (e_Lok (e_st (I := eI) (er_goto (off := 203) (tg := 395) (x_dk dn_349_0_2_ok 15 rfl) (by decide)) nx_goto))
  (e_Lok (ld_aload_n_0 (x_dk dn_349_0_2_ok 16 rfl))))
  (e_Tok2
  (e_Lok (lk_12_592 ho_349 (x_dk dn_349_0_2_ok 17 rfl)))
  (e_Tok2
  (e_Lok (ld_aload_n_0 (x_dk dn_349_0_2_ok 18 rfl)))
  (e_Lok (ld_aload_n_0 (x_dk dn_349_0_2_ok 19 rfl))))))
  (e_Tok2
  (e_Tok2
  (e_Lok (ps_bipush_44 (x_dk dn_349_0_2_ok 20 rfl)))
  (e_Tok2
  (e_Lok (lk_12_586 ho_349 (x_dk dn_349_0_2_ok 21 rfl)))
  (e_Lok (lk_12_555 ho_349 (x_dk dn_349_0_2_ok 22 rfl)))))
  (e_Tok2
  (e_Lok (ld_aload_n_0 (x_dk dn_349_0_2_ok 23 rfl)))
  (e_Tok2
  (e_Lok (lk_12_592 ho_349 (x_dk dn_349_0_2_ok 24 rfl)))
  (e_Lok (ld_aload_n_0 (x_dk dn_349_0_3_ok 0 rfl)))))))
  (e_Tok2
  (e_Tok2
  (e_Tok2
  (e_Lok (ps_bipush_35 (x_dk dn_349_0_3_ok 1 rfl)))
  (e_Lok (ps_iconst_0 (x_dk dn_349_0_3_ok 2 rfl))))
  (e_Tok2
  (e_Lok (lk_12_565 ho_349 (x_dk dn_349_0_3_ok 3 rfl)))
  (e_Tok2
  (e_Lok (e_st (I := eI) (er_pop (x_dk dn_349_0_3_ok 4 rfl)) (nx_stk bf_pop)))
  (e_Lok (e_st (I := eI) (er_goto (off := 174) (tg := 395) (x_dk dn_349_0_3_ok 5 rfl) (by decide)) nx_goto)))))
  (e_Tok2
  (e_Tok2
  (e_Lok (ld_aload_n_0 (x_dk dn_349_0_3_ok 6 rfl)))
  (e_Tok2
  (e_Lok (ps_iconst_3 (x_dk dn_349_0_3_ok 7 rfl)))
  (e_Lok (ld_aload_n_0 (x_dk dn_349_0_3_ok 8 rfl)))))
  (e_Tok2
  (e_Lok (ps_bipush_38 (x_dk dn_349_0_3_ok 9 rfl)))
  (e_Tok2
  (e_Lok (ps_iconst_0 (x_dk dn_349_0_3_ok 10 rfl)))
  (e_Lok (lk_12_565 ho_349 (x_dk dn_349_0_3_ok 11 rfl))))))))
def te_349_87 : Nat → eE := (e_T 254 (e_T 241 (e_T 236 (e_T 233 (e_L 233 (2, e_nof, 338, 3)) (e_L 236 (0, ei_goto 395, 0, 0))) (e_T 239 (e_L 239 (0, ei_load 0 2 240, 0, 0)) (e_T 240 (e_L 240 (0, ei_push (0, 3) 241, 0, 0)) (e_L 241 (0, ei_load 0 2 242, 0, 0))))) (e_T 245 (e_T 242 (e_L 242 (0, ei_push (0, 39) 244, 0, 0)) (e_T 244 (e_L 244 (0, ei_push (0, 0) 245, 0, 0)) (e_L 245 (2, e_nof, 336, 3)))) (e_T 248 (e_L 248 (2, e_nof, 338, 3)) (e_T 251 (e_L 251 (0, ei_goto 395, 0, 0)) (e_L 254 (0, ei_load 0 2 255, 0, 0)))))) (e_T 262 (e_T 258 (e_T 255 (e_L 255 (2, e_nof, 339, 1)) (e_L 258 (0, ei_load 0 2 259, 0, 0))) (e_T 259 (e_L 259 (0, ei_load 0 2 260, 0, 0)) (e_T 260 (e_L 260 (0, ei_push (0, 44) 262, 0, 0)) (e_L 262 (2, e_nof, 331, 2))))) (e_T 269 (e_T 265 (e_L 265 (2, e_nof, 334, 2)) (e_T 268 (e_L 268 (0, ei_load 0 2 269, 0, 0)) (e_L 269 (0, ei_push (0, 3) 270, 0, 0)))) (e_T 270 (e_L 270 (0, ei_load 0 2 271, 0, 0)) (e_T 271 (e_L 271 (0, ei_push (0, 44) 273, 0, 0)) (e_L 273 (0, ei_push (0, 0) 274, 0, 0)))))))
set_option maxRecDepth 20000 in
set_option maxHeartbeats 4000000 in
theorem te_349_87_ok : ∀ pc, e_EOq eft cls elay eI n_349 pc (te_349_87 pc) :=
  (e_Tok2
  (e_Tok2
  (e_Tok2
  (e_Tok2
  (e_Lok (lk_12_595 ho_349 (x_dk dn_349_0_3_ok 12 rfl)))
  (e_Lok (e_st (I := eI) (er_goto (off := 159) (tg := 395) (x_dk dn_349_0_3_ok 13 rfl) (by decide)) nx_goto)))
  (e_Tok2
  (e_Lok (ld_aload_n_0 (x_dk dn_349_0_3_ok 14 rfl)))
  (e_Tok2
  (e_Lok (ps_iconst_3 (x_dk dn_349_0_3_ok 15 rfl)))
  (e_Lok (ld_aload_n_0 (x_dk dn_349_0_3_ok 16 rfl))))))
  (e_Tok2
  (e_Tok2
  (e_Lok (ps_bipush_39 (x_dk dn_349_0_3_ok 17 rfl)))
  (e_Tok2
  (e_Lok (ps_iconst_0 (x_dk dn_349_0_3_ok 18 rfl)))
  (e_Lok (lk_12_565 ho_349 (x_dk dn_349_0_3_ok 19 rfl)))))
  (e_Tok2
  (e_Lok (lk_12_595 ho_349 (x_dk dn_349_0_3_ok 20 rfl)))
  (e_Tok2
  (e_Lok (e_st (I := eI) (er_goto (off := 144) (tg := 395) (x_dk dn_349_0_3_ok 21 rfl) (by decide)) nx_goto))
  (e_Lok (ld_aload_n_0 (x_dk dn_349_0_3_ok 22 rfl)))))))
  (e_Tok2
  (e_Tok2
  (e_Tok2
  (e_Lok (lk_12_592 ho_349 (x_dk dn_349_0_3_ok 23 rfl)))
  (e_Lok (ld_aload_n_0 (x_dk dn_349_0_3_ok 24 rfl))))
  (e_Tok2
  (e_Lok (ld_aload_n_0 (x_dk dn_349_1_0_ok 0 rfl)))
  (e_Tok2
  (e_Lok (ps_bipush_44 (x_dk dn_349_1_0_ok 1 rfl)))
  (e_Lok (lk_12_586 ho_349 (x_dk dn_349_1_0_ok 2 rfl))))))
  (e_Tok2
  (e_Tok2
  (e_Lok (lk_12_555 ho_349 (x_dk dn_349_1_0_ok 3 rfl)))
  (e_Tok2
  (e_Lok (ld_aload_n_0 (x_dk dn_349_1_0_ok 4 rfl)))
  (e_Lok (ps_iconst_3 (x_dk dn_349_1_0_ok 5 rfl)))))
  (e_Tok2
  (e_Lok (ld_aload_n_0 (x_dk dn_349_1_0_ok 6 rfl)))
  (e_Tok2
  (e_Lok (ps_bipush_44 (x_dk dn_349_1_0_ok 7 rfl)))
  (e_Lok (ps_iconst_0 (x_dk dn_349_1_0_ok 8 rfl))))))))
def te_349_109 : Nat → eE := (e_T 295 (e_T 284 (e_T 277 (e_T 274 (e_L 274 (2, e_nof, 336, 3)) (e_L 277 (2, e_nof, 338, 3))) (e_T 280 (e_L 280 (0, ei_goto 395, 0, 0)) (e_T 283 (e_L 283 (0, ei_load 0 2 284, 0, 0)) (e_L 284 (0, ei_push (0, 42) 286, 0, 0))))) (e_T 290 (e_T 286 (e_L 286 (0, ei_push (0, 0) 287, 0, 0)) (e_T 287 (e_L 287 (2, e_nof, 336, 3)) (e_L 290 (0, ei_stk ef_pop 291, 0, 0)))) (e_T 291 (e_L 291 (0, ei_goto 395, 0, 0)) (e_T 294 (e_L 294 (0, ei_load 0 2 295, 0, 0)) (e_L 295 (0, ei_push (0, 43) 297, 0, 0)))))) (e_T 305 (e_T 298 (e_T 297 (e_L 297 (0, ei_push (0, 0) 298, 0, 0)) (e_L 298 (2, e_nof, 336, 3))) (e_T 301 (e_L 301 (0, ei_stk ef_pop 302, 0, 0)) (e_T 302 (e_L 302 (0, ei_goto 395, 0, 0)) (e_L 305 (0, ei_load 0 2 306, 0, 0))))) (e_T 309 (e_T 306 (e_L 306 (0, ei_push (0, 45) 308, 0, 0)) (e_T 308 (e_L 308 (0, ei_push (0, 0) 309, 0, 0)) (e_L 309 (2, e_nof, 336, 3)))) (e_T 312 (e_L 312 (0, ei_stk ef_pop 313, 0, 0)) (e_T 313 (e_L 313 (0, ei_goto 395, 0, 0)) (e_L 316 (0, ei_load 0 2 317, 0, 0)))))))
set_option maxRecDepth 20000 in
set_option maxHeartbeats 4000000 in
theorem te_349_109_ok : ∀ pc, e_EOq eft cls elay eI n_349 pc (te_349_109 pc) :=
  (e_Tok2
  (e_Tok2
  (e_Tok2
  (e_Tok2
  (e_Lok (lk_12_565 ho_349 (x_dk dn_349_1_0_ok 9 rfl)))
  (e_Lok (lk_12_595 ho_349 (x_dk dn_349_1_0_ok 10 rfl))))
  (e_Tok2
  (e_Lok (e_st (I := eI) (er_goto (off := 115) (tg := 395) (x_dk dn_349_1_0_ok 11 rfl) (by decide)) nx_goto))
  (e_Tok2
  (e_Lok (ld_aload_n_0 (x_dk dn_349_1_0_ok 12 rfl)))
  (e_Lok (ps_bipush_42 (x_dk dn_349_1_0_ok 13 rfl))))))
  (e_Tok2
  (e_Tok2
  (e_Lok (ps_iconst_0 (x_dk dn_349_1_0_ok 14 rfl)))
  (e_Tok2
  (e_Lok (lk_12_565 ho_349 (x_dk dn_349_1_0_ok 15 rfl)))
  (e_Lok (e_st (I := eI) (er_pop (x_dk dn_349_1_0_ok 16 rfl)) (nx_stk bf_pop)))))
  (e_Tok2
  (e_Lok (e_st (I := eI) (er_goto (off := 104) (tg := 395) (x_dk dn_349_1_0_ok 17 rfl) (by decide)) nx_goto))
  (e_Tok2
  (e_Lok (ld_aload_n_0 (x_dk dn_349_1_0_ok 18 rfl)))
  (e_Lok (ps_bipush_43 (x_dk dn_349_1_0_ok 19 rfl)))))))
  (e_Tok2
  (e_Tok2
  (e_Tok2
  (e_Lok (ps_iconst_0 (x_dk dn_349_1_0_ok 20 rfl)))
  (e_Lok (lk_12_565 ho_349 (x_dk dn_349_1_0_ok 21 rfl))))
  (e_Tok2
  (e_Lok (e_st (I := eI) (er_pop (x_dk dn_349_1_0_ok 22 rfl)) (nx_stk bf_pop)))
  (e_Tok2
  (e_Lok (e_st (I := eI) (er_goto (off := 93) (tg := 395) (x_dk dn_349_1_0_ok 23 rfl) (by decide)) nx_goto))
  (e_Lok (ld_aload_n_0 (x_dk dn_349_1_0_ok 24 rfl))))))
  (e_Tok2
  (e_Tok2
  (e_Lok (ps_bipush_45 (x_dk dn_349_1_1_ok 0 rfl)))
  (e_Tok2
  (e_Lok (ps_iconst_0 (x_dk dn_349_1_1_ok 1 rfl)))
  (e_Lok (lk_12_565 ho_349 (x_dk dn_349_1_1_ok 2 rfl)))))
  (e_Tok2
  (e_Lok (e_st (I := eI) (er_pop (x_dk dn_349_1_1_ok 3 rfl)) (nx_stk bf_pop)))
  (e_Tok2
  (e_Lok (e_st (I := eI) (er_goto (off := 82) (tg := 395) (x_dk dn_349_1_1_ok 4 rfl) (by decide)) nx_goto))
  (e_Lok (ld_aload_n_0 (x_dk dn_349_1_1_ok 5 rfl))))))))
def te_349_131 : Nat → eE := (e_T 336 (e_T 326 (e_T 319 (e_T 317 (e_L 317 (0, ei_push (0, 46) 319, 0, 0)) (e_L 319 (0, ei_load 0 2 320, 0, 0))) (e_T 320 (e_L 320 (0, ei_getf eft elay 12 82 323, 0, 0)) (e_T 323 (e_L 323 (2, e_nof, 336, 3)) (e_L 326 (0, ei_stk ef_pop 327, 0, 0))))) (e_T 331 (e_T 327 (e_L 327 (0, ei_goto 395, 0, 0)) (e_T 330 (e_L 330 (0, ei_load 0 2 331, 0, 0)) (e_L 331 (2, e_nof, 339, 1)))) (e_T 334 (e_L 334 (0, ei_load 0 2 335, 0, 0)) (e_T 335 (e_L 335 (0, ei_load 1 0 336, 0, 0)) (e_L 336 (0, ei_push (0, 4) 337, 0, 0)))))) (e_T 346 (e_T 340 (e_T 337 (e_L 337 (0, ei_if2 1 345 340, 0, 0)) (e_L 340 (0, ei_push (0, 33) 342, 0, 0))) (e_T 342 (e_L 342 (0, ei_goto 390, 0, 0)) (e_T 345 (e_L 345 (0, ei_load 1 0 346, 0, 0)) (e_L 346 (0, ei_push (0, 5) 347, 0, 0))))) (e_T 352 (e_T 347 (e_L 347 (0, ei_if2 1 355 350, 0, 0)) (e_T 350 (e_L 350 (0, ei_push (0, 34) 352, 0, 0)) (e_L 352 (0, ei_goto 390, 0, 0)))) (e_T 355 (e_L 355 (0, ei_load 1 0 356, 0, 0)) (e_T 356 (e_L 356 (0, ei_push (0, 7) 358, 0, 0)) (e_L 358 (0, ei_if2 1 366 361, 0, 0)))))))
set_option maxRecDepth 20000 in
set_option maxHeartbeats 4000000 in
theorem te_349_131_ok : ∀ pc, e_EOq eft cls elay eI n_349 pc (te_349_131 pc) :=
  (e_Tok2
  (e_Tok2
  (e_Tok2
  (e_Tok2
  (e_Lok (ps_bipush_46 (x_dk dn_349_1_1_ok 6 rfl)))
  (e_Lok (ld_aload_n_0 (x_dk dn_349_1_1_ok 7 rfl))))
  (e_Tok2
  (e_Lok (lk_12_620g ho_349 (x_dk dn_349_1_1_ok 8 rfl)))
  (e_Tok2
  (e_Lok (lk_12_565 ho_349 (x_dk dn_349_1_1_ok 9 rfl)))
  (e_Lok (e_st (I := eI) (er_pop (x_dk dn_349_1_1_ok 10 rfl)) (nx_stk bf_pop))))))
  (e_Tok2
  (e_Tok2
  (e_Lok (e_st (I := eI) (er_goto (off := 68) (tg := 395) (x_dk dn_349_1_1_ok 11 rfl) (by decide)) nx_goto))
  (e_Tok2
  (e_Lok (ld_aload_n_0 (x_dk dn_349_1_1_ok 12 rfl)))
  (e_Lok (lk_12_592 ho_349 (x_dk dn_349_1_1_ok 13 rfl)))))
  (e_Tok2
  (e_Lok (ld_aload_n_0 (x_dk dn_349_1_1_ok 14 rfl)))
  (e_Tok2
  (e_Lok (ld_iload_n_1 (x_dk dn_349_1_1_ok 15 rfl)))
  (e_Lok (ps_iconst_4 (x_dk dn_349_1_1_ok 16 rfl)))))))
  (e_Tok2
  (e_Tok2
  (e_Tok2
  (e_Lok (e_st (I := eI) (er_icmpne (off := 8) (tg := 345) (x_dk dn_349_1_1_ok 17 rfl) (by decide)) nx_if2))
  (e_Lok (ps_bipush_33 (x_dk dn_349_1_1_ok 18 rfl))))
  (e_Tok2
  (e_Lok (e_st (I := eI) (er_goto (off := 48) (tg := 390) (x_dk dn_349_1_1_ok 19 rfl) (by decide)) nx_goto))
  (e_Tok2
  (e_Lok (ld_iload_n_1 (x_dk dn_349_1_1_ok 20 rfl)))
  (e_Lok (ps_iconst_5 (x_dk dn_349_1_1_ok 21 rfl))))))
  (e_Tok2
  (e_Tok2
  (e_Lok (e_st (I := eI) (er_icmpne (off := 8) (tg := 355) (x_dk dn_349_1_1_ok 22 rfl) (by decide)) nx_if2))
  (e_Tok2
  (e_Lok (ps_bipush_34 (x_dk dn_349_1_1_ok 23 rfl)))
  (e_Lok (e_st (I := eI) (er_goto (off := 38) (tg := 390) (x_dk dn_349_1_1_ok 24 rfl) (by decide)) nx_goto))))
  (e_Tok2
  (e_Lok (ld_iload_n_1 (x_dk dn_349_1_2_ok 0 rfl)))
  (e_Tok2
  (e_Lok (ps_bipush_7 (x_dk dn_349_1_2_ok 1 rfl)))
  (e_Lok (e_st (I := eI) (er_icmpne (off := 8) (tg := 366) (x_dk dn_349_1_2_ok 2 rfl) (by decide)) nx_if2)))))))
def te_349_153 : Nat → eE := (e_T 383 (e_T 369 (e_T 363 (e_T 361 (e_L 361 (0, ei_push (0, 36) 363, 0, 0)) (e_L 363 (0, ei_goto 390, 0, 0))) (e_T 366 (e_L 366 (0, ei_load 1 0 367, 0, 0)) (e_T 367 (e_L 367 (0, ei_push (0, 8) 369, 0, 0)) (e_L 369 (0, ei_if2 1 377 372, 0, 0))))) (e_T 377 (e_T 372 (e_L 372 (0, ei_push (0, 37) 374, 0, 0)) (e_T 374 (e_L 374 (0, ei_goto 390, 0, 0)) (e_L 377 (0, ei_load 1 0 378, 0, 0)))) (e_T 378 (e_L 378 (0, ei_push (0, 11) 380, 0, 0)) (e_T 380 (e_L 380 (0, ei_if2 1 388 383, 0, 0)) (e_L 383 (0, ei_push (0, 40) 385, 0, 0)))))) (e_T 394 (e_T 388 (e_T 385 (e_L 385 (0, ei_goto 390, 0, 0)) (e_L 388 (0, ei_push (0, 41) 390, 0, 0))) (e_T 390 (e_L 390 (0, ei_load 2 0 391, 0, 0)) (e_T 391 (e_L 391 (2, e_nof, 336, 3)) (e_L 394 (0, ei_stk ef_pop 395, 0, 0))))) (e_T 397 (e_T 395 (e_L 395 (0, ei_load 0 2 396, 0, 0)) (e_T 396 (e_L 396 (0, ei_load 0 2 397, 0, 0)) (e_L 397 (0, ei_push (0, 59) 399, 0, 0)))) (e_T 399 (e_L 399 (2, e_nof, 331, 2)) (e_T 402 (e_L 402 (2, e_nof, 334, 2)) (e_L 405 (1, e_nof, 0, 0)))))))
set_option maxRecDepth 20000 in
set_option maxHeartbeats 4000000 in
theorem te_349_153_ok : ∀ pc, e_EOq eft cls elay eI n_349 pc (te_349_153 pc) :=
  (e_Tok2
  (e_Tok2
  (e_Tok2
  (e_Tok2
  (e_Lok (ps_bipush_36 (x_dk dn_349_1_2_ok 3 rfl)))
  (e_Lok (e_st (I := eI) (er_goto (off := 27) (tg := 390) (x_dk dn_349_1_2_ok 4 rfl) (by decide)) nx_goto)))
  (e_Tok2
  (e_Lok (ld_iload_n_1 (x_dk dn_349_1_2_ok 5 rfl)))
  (e_Tok2
  (e_Lok (ps_bipush_8 (x_dk dn_349_1_2_ok 6 rfl)))
  (e_Lok (e_st (I := eI) (er_icmpne (off := 8) (tg := 377) (x_dk dn_349_1_2_ok 7 rfl) (by decide)) nx_if2)))))
  (e_Tok2
  (e_Tok2
  (e_Lok (ps_bipush_37 (x_dk dn_349_1_2_ok 8 rfl)))
  (e_Tok2
  (e_Lok (e_st (I := eI) (er_goto (off := 16) (tg := 390) (x_dk dn_349_1_2_ok 9 rfl) (by decide)) nx_goto))
  (e_Lok (ld_iload_n_1 (x_dk dn_349_1_2_ok 10 rfl)))))
  (e_Tok2
  (e_Lok (ps_bipush_11 (x_dk dn_349_1_2_ok 11 rfl)))
  (e_Tok2
  (e_Lok (e_st (I := eI) (er_icmpne (off := 8) (tg := 388) (x_dk dn_349_1_2_ok 12 rfl) (by decide)) nx_if2))
  (e_Lok (ps_bipush_40 (x_dk dn_349_1_2_ok 13 rfl)))))))
  (e_Tok2
  (e_Tok2
  (e_Tok2
  (e_Lok (e_st (I := eI) (er_goto (off := 5) (tg := 390) (x_dk dn_349_1_2_ok 14 rfl) (by decide)) nx_goto))
  (e_Lok (ps_bipush_41 (x_dk dn_349_1_2_ok 15 rfl))))
  (e_Tok2
  (e_Lok (ld_iload_n_2 (x_dk dn_349_1_2_ok 16 rfl)))
  (e_Tok2
  (e_Lok (lk_12_565 ho_349 (x_dk dn_349_1_2_ok 17 rfl)))
  (e_Lok (e_st (I := eI) (er_pop (x_dk dn_349_1_2_ok 18 rfl)) (nx_stk bf_pop))))))
  (e_Tok2
  (e_Tok2
  (e_Lok (ld_aload_n_0 (x_dk dn_349_1_2_ok 19 rfl)))
  (e_Tok2
  (e_Lok (ld_aload_n_0 (x_dk dn_349_1_2_ok 20 rfl)))
  (e_Lok (ps_bipush_59 (x_dk dn_349_1_2_ok 21 rfl)))))
  (e_Tok2
  (e_Lok (lk_12_586 ho_349 (x_dk dn_349_1_2_ok 22 rfl)))
  (e_Tok2
  (e_Lok (lk_12_555 ho_349 (x_dk dn_349_1_2_ok 23 rfl)))
  (e_Lok (e_rt (I := eI) (k := 0) ⟨(x_dk dn_349_1_2_ok 24 rfl), rfl⟩)))))))
def te_349 : Nat → eE := (e_T 230 (e_T 74 (e_T 36 te_349_0 te_349_21) (e_T 191 te_349_43 te_349_65)) (e_T 316 (e_T 273 te_349_87 te_349_109) (e_T 358 te_349_131 te_349_153)))
theorem te_349_ok : ∀ pc, e_EOq eft cls elay eI n_349 pc (te_349 pc) := (e_Tok2 ((e_Tok2 ((e_Tok2 (te_349_0_ok) (te_349_21_ok))) ((e_Tok2 (te_349_43_ok) (te_349_65_ok))))) ((e_Tok2 ((e_Tok2 (te_349_87_ok) (te_349_109_ok))) ((e_Tok2 (te_349_131_ok) (te_349_153_ok))))))
end
end
-- part 41az
section
noncomputable section
theorem ho_350 : (xm_y n_350).cls = "RobotCellHouseModel" := rfl
def dn_350_0_0 : List (Nat × Instr × Nat) := [(0, .aload_n 0, 1), (1, .invokevirtual 578, 3), (4, .aload_n 0, 1), (5, .bipush 30, 2), (7, .iconst 0, 1), (8, .invokevirtual 565, 3), (11, .pop, 1), (12, .aload_n 0, 1), (13, .aload_n 0, 1), (14, .bipush 18, 2), (16, .invokevirtual 562, 3), (19, .invokevirtual 555, 3), (22, .aload_n 0, 1), (23, .invokevirtual 592, 3), (26, .aload_n 0, 1), (27, .aload_n 0, 1), (28, .bipush 58, 2), (30, .invokevirtual 586, 3), (33, .invokevirtual 555, 3), (36, .aload_n 0, 1), (37, .bipush 47, 2), (39, .iconst 0, 1), (40, .invokevirtual 565, 3), (43, .istore_n 1, 1), (44, .aload_n 0, 1)]
set_option maxRecDepth 20000 in
theorem dn_350_0_0_ok : dn_350_0_0.all (fun q => decide (decode (xm_b n_350) q.1 = .ok (q.2.1, q.2.2))) = true := xa_g_ok (by decide +kernel)
def dn_350_0_1 : List (Nat × Instr × Nat) := [(45, .invokevirtual 623, 3), (48, .aload_n 0, 1), (49, .getfield 530, 3), (52, .ifCond .ne 51, 3), (55, .aload_n 0, 1), (56, .bipush 19, 2), (58, .invokevirtual 562, 3), (61, .ifCond .eq 42, 3), (64, .aload_n 0, 1), (65, .invokevirtual 536, 3), (68, .aload_n 0, 1), (69, .aload_n 0, 1), (70, .bipush 58, 2), (72, .invokevirtual 586, 3), (75, .invokevirtual 555, 3), (78, .aload_n 0, 1), (79, .bipush 48, 2), (81, .iconst 0, 1), (82, .invokevirtual 565, 3), (85, .istore_n 2, 1), (86, .aload_n 0, 1), (87, .iload_n 1, 1), (88, .invokevirtual 575, 3), (91, .aload_n 0, 1), (92, .invokevirtual 623, 3)]
set_option maxRecDepth 20000 in
theorem dn_350_0_1_ok : dn_350_0_1.all (fun q => decide (decode (xm_b n_350) q.1 = .ok (q.2.1, q.2.2))) = true := xa_g_ok (by decide +kernel)
def dn_350_0_2 : List (Nat × Instr × Nat) := [(95, .aload_n 0, 1), (96, .iload_n 2, 1), (97, .invokevirtual 575, 3), (100, .goto 8, 3), (103, .aload_n 0, 1), (104, .iload_n 1, 1), (105, .invokevirtual 575, 3), (108, .aload_n 0, 1), (109, .aload_n 0, 1), (110, .iconst 2, 1), (111, .invokevirtual 562, 3), (114, .invokevirtual 555, 3), (117, .aload_n 0, 1), (118, .dup, 1), (119, .getfield 542, 3), (122, .iconst 1, 1), (123, .isub, 1), (124, .putfield 542, 3), (127, .return_, 1)]
set_option maxRecDepth 20000 in
theorem dn_350_0_2_ok : dn_350_0_2.all (fun q => decide (decode (xm_b n_350) q.1 = .ok (q.2.1, q.2.2))) = true := xa_g_ok (by decide +kernel)
def te_350_0 : Nat → eE := (e_T 28 (e_T 12 (e_T 5 (e_T 1 (e_T 0 (e_L 0 (0, ei_load 0 2 1, 0, 0)) (e_L 1 (2, e_nof, 335, 1))) (e_T 4 (e_L 4 (0, ei_load 0 2 5, 0, 0)) (e_L 5 (0, ei_push (0, 30) 7, 0, 0)))) (e_T 8 (e_T 7 (e_L 7 (0, ei_push (0, 0) 8, 0, 0)) (e_L 8 (2, e_nof, 336, 3))) (e_T 11 (e_L 11 (0, ei_stk ef_pop 12, 0, 0)) (e_L 12 (0, ei_load 0 2 13, 0, 0))))) (e_T 19 (e_T 14 (e_T 13 (e_L 13 (0, ei_load 0 2 14, 0, 0)) (e_L 14 (0, ei_push (0, 18) 16, 0, 0))) (e_T 16 (e_L 16 (2, e_nof, 332, 2)) (e_L 19 (2, e_nof, 334, 2)))) (e_T 23 (e_T 22 (e_L 22 (0, ei_load 0 2 23, 0, 0)) (e_L 23 (2, e_nof, 339, 1))) (e_T 26 (e_L 26 (0, ei_load 0 2 27, 0, 0)) (e_T 27 (e_L 27 (0, ei_load 0 2 28, 0, 0)) (e_L 28 (0, ei_push (0, 58) 30, 0, 0))))))) (e_T 44 (e_T 37 (e_T 33 (e_T 30 (e_L 30 (2, e_nof, 331, 2)) (e_L 33 (2, e_nof, 334, 2))) (e_T 36 (e_L 36 (0, ei_load 0 2 37, 0, 0)) (e_L 37 (0, ei_push (0, 47) 39, 0, 0)))) (e_T 40 (e_T 39 (e_L 39 (0, ei_push (0, 0) 40, 0, 0)) (e_L 40 (2, e_nof, 336, 3))) (e_T 43 (e_L 43 (0, ei_stor 1 0 44, 0, 0)) (e_L 44 (0, ei_load 0 2 45, 0, 0))))) (e_T 52 (e_T 48 (e_T 45 (e_L 45 (2, e_nof, 348, 1)) (e_L 48 (0, ei_load 0 2 49, 0, 0))) (e_T 49 (e_L 49 (0, ei_getf eft elay 12 88 52, 0, 0)) (e_L 52 (0, ei_if1 1 103 55, 0, 0)))) (e_T 56 (e_T 55 (e_L 55 (0, ei_load 0 2 56, 0, 0)) (e_L 56 (0, ei_push (0, 19) 58, 0, 0))) (e_T 58 (e_L 58 (2, e_nof, 332, 2)) (e_T 61 (e_L 61 (0, ei_if1 0 103 64, 0, 0)) (e_L 64 (0, ei_load 0 2 65, 0, 0))))))))
set_option maxRecDepth 20000 in
set_option maxHeartbeats 4000000 in
theorem te_350_0_ok : ∀ pc, e_EOq eft cls elay eI n_350 pc (te_350_0 pc) :=
  (e_Tok2
  (e_Tok2
  (e_Tok2
  (e_Tok2
  (e_Tok2
  (e_Lok (ld_aload_n_0 (x_dk dn_350_0_0_ok 0 rfl)))
  (e_Lok (lk_12_578 ho_350 (x_dk dn_350_0_0_ok 1 rfl))))
  (e_Tok2
  (e_Lok (ld_aload_n_0 (x_dk dn_350_0_0_ok 2 rfl)))
  (e_Lok (ps_bipush_30 (x_dk dn_350_0_0_ok 3 rfl)))))
  (e_Tok2
  (e_Tok2
  (e_Lok (ps_iconst_0 (x_dk dn_350_0_0_ok 4 rfl)))
  (e_Lok (lk_12_565 ho_350 (x_dk dn_350_0_0_ok 5 rfl))))
  (e_Tok2
  (e_Lok (e_st (I := eI) (er_pop (x_dk dn_350_0_0_ok 6 rfl)) (nx_stk bf_pop)))
  (e_Lok (ld_aload_n_0 (x_dk dn_350_0_0_ok 7 rfl))))))
  (e_Tok2
  (e_Tok2
  (e_Tok2
  (e_Lok (ld_aload_n_0 (x_dk dn_350_0_0_ok 8 rfl)))
  (e_Lok (ps_bipush_18 (x_dk dn_350_0_0_ok 9 rfl))))
  (e_Tok2
  (e_Lok (lk_12_562 ho_350 (x_dk dn_350_0_0_ok 10 rfl)))
  (e_Lok (lk_12_555 ho_350 (x_dk dn_350_0_0_ok 11 rfl)))))
  (e_Tok2
  (e_Tok2
  (e_Lok (ld_aload_n_0 (x_dk dn_350_0_0_ok 12 rfl)))
  (e_Lok (lk_12_592 ho_350 (x_dk dn_350_0_0_ok 13 rfl))))
  (e_Tok2
  (e_Lok (ld_aload_n_0 (x_dk dn_350_0_0_ok 14 rfl)))
  (e_Tok2
  (e_Lok (ld_aload_n_0 (x_dk dn_350_0_0_ok 15 rfl)))
  (e_Lok (ps_bipush_58 (x_dk dn_350_0_0_ok 16 rfl))))))))
  (e_Tok2
  (e_Tok2
  (e_Tok2
  (e_Tok2
  (e_Lok (lk_12_586 ho_350 (x_dk dn_350_0_0_ok 17 rfl)))
  (e_Lok (lk_12_555 ho_350 (x_dk dn_350_0_0_ok 18 rfl))))
  (e_Tok2
  (e_Lok (ld_aload_n_0 (x_dk dn_350_0_0_ok 19 rfl)))
  (e_Lok (ps_bipush_47 (x_dk dn_350_0_0_ok 20 rfl)))))
  (e_Tok2
  (e_Tok2
  (e_Lok (ps_iconst_0 (x_dk dn_350_0_0_ok 21 rfl)))
  (e_Lok (lk_12_565 ho_350 (x_dk dn_350_0_0_ok 22 rfl))))
  (e_Tok2
  (e_Lok (e_st (I := eI) (er_istore_n (i := 1) (x_dk dn_350_0_0_ok 23 rfl) (by decide +kernel)) nx_stor))
  (e_Lok (ld_aload_n_0 (x_dk dn_350_0_0_ok 24 rfl))))))
  (e_Tok2
  (e_Tok2
  (e_Tok2
  (e_Lok (lk_12_623 ho_350 (x_dk dn_350_0_1_ok 0 rfl)))
  (e_Lok (ld_aload_n_0 (x_dk dn_350_0_1_ok 1 rfl))))
  (e_Tok2
  (e_Lok (lk_12_530g ho_350 (x_dk dn_350_0_1_ok 2 rfl)))
  (e_Lok (e_st (I := eI) (er_ifne (off := 51) (tg := 103) (x_dk dn_350_0_1_ok 3 rfl) (by decide)) nx_if1))))
  (e_Tok2
  (e_Tok2
  (e_Lok (ld_aload_n_0 (x_dk dn_350_0_1_ok 4 rfl)))
  (e_Lok (ps_bipush_19 (x_dk dn_350_0_1_ok 5 rfl))))
  (e_Tok2
  (e_Lok (lk_12_562 ho_350 (x_dk dn_350_0_1_ok 6 rfl)))
  (e_Tok2
  (e_Lok (e_st (I := eI) (er_ifeq (off := 42) (tg := 103) (x_dk dn_350_0_1_ok 7 rfl) (by decide)) nx_if1))
  (e_Lok (ld_aload_n_0 (x_dk dn_350_0_1_ok 8 rfl)))))))))
def te_350_34 : Nat → eE := (e_T 95 (e_T 79 (e_T 70 (e_T 68 (e_T 65 (e_L 65 (2, e_nof, 327, 1)) (e_L 68 (0, ei_load 0 2 69, 0, 0))) (e_T 69 (e_L 69 (0, ei_load 0 2 70, 0, 0)) (e_L 70 (0, ei_push (0, 58) 72, 0, 0)))) (e_T 75 (e_T 72 (e_L 72 (2, e_nof, 331, 2)) (e_L 75 (2, e_nof, 334, 2))) (e_T 78 (e_L 78 (0, ei_load 0 2 79, 0, 0)) (e_L 79 (0, ei_push (0, 48) 81, 0, 0))))) (e_T 86 (e_T 82 (e_T 81 (e_L 81 (0, ei_push (0, 0) 82, 0, 0)) (e_L 82 (2, e_nof, 336, 3))) (e_T 85 (e_L 85 (0, ei_stor 2 0 86, 0, 0)) (e_L 86 (0, ei_load 0 2 87, 0, 0)))) (e_T 88 (e_T 87 (e_L 87 (0, ei_load 1 0 88, 0, 0)) (e_L 88 (2, e_nof, 337, 2))) (e_T 91 (e_L 91 (0, ei_load 0 2 92, 0, 0)) (e_T 92 (e_L 92 (2, e_nof, 348, 1)) (e_L 95 (0, ei_load 0 2 96, 0, 0))))))) (e_T 110 (e_T 103 (e_T 97 (e_T 96 (e_L 96 (0, ei_load 2 0 97, 0, 0)) (e_L 97 (2, e_nof, 337, 2))) (e_T 100 (e_L 100 (0, ei_goto 108, 0, 0)) (e_L 103 (0, ei_load 0 2 104, 0, 0)))) (e_T 105 (e_T 104 (e_L 104 (0, ei_load 1 0 105, 0, 0)) (e_L 105 (2, e_nof, 337, 2))) (e_T 108 (e_L 108 (0, ei_load 0 2 109, 0, 0)) (e_T 109 (e_L 109 (0, ei_load 0 2 110, 0, 0)) (e_L 110 (0, ei_push (0, 2) 111, 0, 0)))))) (e_T 118 (e_T 114 (e_T 111 (e_L 111 (2, e_nof, 332, 2)) (e_L 114 (2, e_nof, 334, 2))) (e_T 117 (e_L 117 (0, ei_load 0 2 118, 0, 0)) (e_L 118 (0, ei_stk ef_dup 119, 0, 0)))) (e_T 122 (e_T 119 (e_L 119 (0, ei_getf eft elay 12 83 122, 0, 0)) (e_L 122 (0, ei_push (0, 1) 123, 0, 0))) (e_T 123 (e_L 123 (0, ei_bin eF_sub 124, 0, 0)) (e_T 124 (e_L 124 (0, ei_putf eft elay 12 83 0 127, 0, 0)) (e_L 127 (1, e_nof, 0, 0))))))))
set_option maxRecDepth 20000 in
set_option maxHeartbeats 4000000 in
theorem te_350_34_ok : ∀ pc, e_EOq eft cls elay eI n_350 pc (te_350_34 pc) :=
  (e_Tok2
  (e_Tok2
  (e_Tok2
  (e_Tok2
  (e_Tok2
  (e_Lok (lk_12_536 ho_350 (x_dk dn_350_0_1_ok 9 rfl)))
  (e_Lok (ld_aload_n_0 (x_dk dn_350_0_1_ok 10 rfl))))
  (e_Tok2
  (e_Lok (ld_aload_n_0 (x_dk dn_350_0_1_ok 11 rfl)))
  (e_Lok (ps_bipush_58 (x_dk dn_350_0_1_ok 12 rfl)))))
  (e_Tok2
  (e_Tok2
  (e_Lok (lk_12_586 ho_350 (x_dk dn_350_0_1_ok 13 rfl)))
  (e_Lok (lk_12_555 ho_350 (x_dk dn_350_0_1_ok 14 rfl))))
  (e_Tok2
  (e_Lok (ld_aload_n_0 (x_dk dn_350_0_1_ok 15 rfl)))
  (e_Lok (ps_bipush_48 (x_dk dn_350_0_1_ok 16 rfl))))))
  (e_Tok2
  (e_Tok2
  (e_Tok2
  (e_Lok (ps_iconst_0 (x_dk dn_350_0_1_ok 17 rfl)))
  (e_Lok (lk_12_565 ho_350 (x_dk dn_350_0_1_ok 18 rfl))))
  (e_Tok2
  (e_Lok (e_st (I := eI) (er_istore_n (i := 2) (x_dk dn_350_0_1_ok 19 rfl) (by decide +kernel)) nx_stor))
  (e_Lok (ld_aload_n_0 (x_dk dn_350_0_1_ok 20 rfl)))))
  (e_Tok2
  (e_Tok2
  (e_Lok (ld_iload_n_1 (x_dk dn_350_0_1_ok 21 rfl)))
  (e_Lok (lk_12_575 ho_350 (x_dk dn_350_0_1_ok 22 rfl))))
  (e_Tok2
  (e_Lok (ld_aload_n_0 (x_dk dn_350_0_1_ok 23 rfl)))
  (e_Tok2
  (e_Lok (lk_12_623 ho_350 (x_dk dn_350_0_1_ok 24 rfl)))
  (e_Lok (ld_aload_n_0 (x_dk dn_350_0_2_ok 0 rfl))))))))
  (e_Tok2
  (e_Tok2
  (e_Tok2
  (e_Tok2
  (e_Lok (ld_iload_n_2 (x_dk dn_350_0_2_ok 1 rfl)))
  (e_Lok (lk_12_575 ho_350 (x_dk dn_350_0_2_ok 2 rfl))))
  (e_Tok2
  (e_Lok (e_st (I := eI) (er_goto (off := 8) (tg := 108) (x_dk dn_350_0_2_ok 3 rfl) (by decide)) nx_goto))
  (e_Lok (ld_aload_n_0 (x_dk dn_350_0_2_ok 4 rfl)))))
  (e_Tok2
  (e_Tok2
  (e_Lok (ld_iload_n_1 (x_dk dn_350_0_2_ok 5 rfl)))
  (e_Lok (lk_12_575 ho_350 (x_dk dn_350_0_2_ok 6 rfl))))
  (e_Tok2
  (e_Lok (ld_aload_n_0 (x_dk dn_350_0_2_ok 7 rfl)))
  (e_Tok2
  (e_Lok (ld_aload_n_0 (x_dk dn_350_0_2_ok 8 rfl)))
  (e_Lok (ps_iconst_2 (x_dk dn_350_0_2_ok 9 rfl)))))))
  (e_Tok2
  (e_Tok2
  (e_Tok2
  (e_Lok (lk_12_562 ho_350 (x_dk dn_350_0_2_ok 10 rfl)))
  (e_Lok (lk_12_555 ho_350 (x_dk dn_350_0_2_ok 11 rfl))))
  (e_Tok2
  (e_Lok (ld_aload_n_0 (x_dk dn_350_0_2_ok 12 rfl)))
  (e_Lok (e_st (I := eI) (er_dup (x_dk dn_350_0_2_ok 13 rfl)) (nx_stk bf_dup)))))
  (e_Tok2
  (e_Tok2
  (e_Lok (lk_12_542g ho_350 (x_dk dn_350_0_2_ok 14 rfl)))
  (e_Lok (ps_iconst_1 (x_dk dn_350_0_2_ok 15 rfl))))
  (e_Tok2
  (e_Lok (sm_isub (x_dk dn_350_0_2_ok 16 rfl)))
  (e_Tok2
  (e_Lok (lk_12_542p ho_350 (x_dk dn_350_0_2_ok 17 rfl)))
  (e_Lok (e_rt (I := eI) (k := 0) ⟨(x_dk dn_350_0_2_ok 18 rfl), rfl⟩))))))))
def te_350 : Nat → eE := (e_T 64 te_350_0 te_350_34)
theorem te_350_ok : ∀ pc, e_EOq eft cls elay eI n_350 pc (te_350 pc) := (e_Tok2 (te_350_0_ok) (te_350_34_ok))
theorem ho_351 : (xm_y n_351).cls = "RobotCellHouseModel" := rfl
def dn_351_0_0 : List (Nat × Instr × Nat) := [(0, .aload_n 0, 1), (1, .invokevirtual 578, 3), (4, .aload_n 0, 1), (5, .getfield 626, 3), (8, .istore_n 1, 1), (9, .aload_n 0, 1), (10, .dup, 1), (11, .getfield 626, 3), (14, .iconst 1, 1), (15, .iadd, 1), (16, .putfield 626, 3), (19, .aload_n 0, 1), (20, .getfield 620, 3), (23, .istore_n 2, 1), (24, .aload_n 0, 1), (25, .getfield 192, 3), (28, .sipush 3600, 3), (31, .iload_n 1, 1), (32, .iadd, 1), (33, .aload_n 0, 1), (34, .getfield 549, 3), (37, .iastore, 1), (38, .aload_n 0, 1), (39, .bipush 30, 2), (41, .iconst 0, 1)]
set_option maxRecDepth 20000 in
theorem dn_351_0_0_ok : dn_351_0_0.all (fun q => decide (decode (xm_b n_351) q.1 = .ok (q.2.1, q.2.2))) = true := xa_g_ok (by decide +kernel)
def dn_351_0_1 : List (Nat × Instr × Nat) := [(42, .invokevirtual 565, 3), (45, .istore_n 3, 1), (46, .aload_n 0, 1), (47, .aload_n 0, 1), (48, .bipush 20, 2), (50, .invokevirtual 562, 3), (53, .invokevirtual 555, 3), (56, .aload_n 0, 1), (57, .invokevirtual 592, 3), (60, .aload_n 0, 1), (61, .aload_n 0, 1), (62, .bipush 58, 2), (64, .invokevirtual 586, 3), (67, .invokevirtual 555, 3), (70, .aload_n 0, 1), (71, .bipush 47, 2), (73, .iconst 0, 1), (74, .invokevirtual 565, 3), (77, .istore 4, 2), (79, .aload_n 0, 1), (80, .iload_n 1, 1), (81, .putfield 620, 3), (84, .aload_n 0, 1), (85, .invokevirtual 623, 3), (88, .aload_n 0, 1)]
set_option maxRecDepth 20000 in
theorem dn_351_0_1_ok : dn_351_0_1.all (fun q => decide (decode (xm_b n_351) q.1 = .ok (q.2.1, q.2.2))) = true := xa_g_ok (by decide +kernel)
def dn_351_0_2 : List (Nat × Instr × Nat) := [(89, .iload_n 2, 1), (90, .putfield 620, 3), (93, .aload_n 0, 1), (94, .bipush 48, 2), (96, .iload_n 3, 1), (97, .invokevirtual 565, 3), (100, .pop, 1), (101, .aload_n 0, 1), (102, .iload 4, 2), (104, .invokevirtual 575, 3), (107, .aload_n 0, 1), (108, .getfield 195, 3), (111, .sipush 3600, 3), (114, .iload_n 1, 1), (115, .iadd, 1), (116, .aload_n 0, 1), (117, .getfield 546, 3), (120, .iastore, 1), (121, .aload_n 0, 1), (122, .aload_n 0, 1), (123, .iconst 2, 1), (124, .invokevirtual 562, 3), (127, .invokevirtual 555, 3), (130, .aload_n 0, 1), (131, .dup, 1)]
set_option maxRecDepth 20000 in
theorem dn_351_0_2_ok : dn_351_0_2.all (fun q => decide (decode (xm_b n_351) q.1 = .ok (q.2.1, q.2.2))) = true := xa_g_ok (by decide +kernel)
def dn_351_0_3 : List (Nat × Instr × Nat) := [(132, .getfield 542, 3), (135, .iconst 1, 1), (136, .isub, 1), (137, .putfield 542, 3), (140, .return_, 1)]
set_option maxRecDepth 20000 in
theorem dn_351_0_3_ok : dn_351_0_3.all (fun q => decide (decode (xm_b n_351) q.1 = .ok (q.2.1, q.2.2))) = true := xa_g_ok (by decide +kernel)
def te_351_0 : Nat → eE := (e_T 33 (e_T 15 (e_T 8 (e_T 1 (e_T 0 (e_L 0 (0, ei_load 0 2 1, 0, 0)) (e_L 1 (2, e_nof, 335, 1))) (e_T 4 (e_L 4 (0, ei_load 0 2 5, 0, 0)) (e_T 5 (e_L 5 (0, ei_getf eft elay 12 80 8, 0, 0)) (e_L 8 (0, ei_stor 1 0 9, 0, 0))))) (e_T 10 (e_T 9 (e_L 9 (0, ei_load 0 2 10, 0, 0)) (e_L 10 (0, ei_stk ef_dup 11, 0, 0))) (e_T 11 (e_L 11 (0, ei_getf eft elay 12 80 14, 0, 0)) (e_T 14 (e_L 14 (0, ei_push (0, 1) 15, 0, 0)) (e_L 15 (0, ei_bin eF_add 16, 0, 0)))))) (e_T 24 (e_T 19 (e_T 16 (e_L 16 (0, ei_putf eft elay 12 80 0 19, 0, 0)) (e_L 19 (0, ei_load 0 2 20, 0, 0))) (e_T 20 (e_L 20 (0, ei_getf eft elay 12 82 23, 0, 0)) (e_T 23 (e_L 23 (0, ei_stor 2 0 24, 0, 0)) (e_L 24 (0, ei_load 0 2 25, 0, 0))))) (e_T 28 (e_T 25 (e_L 25 (0, ei_getf eft elay 12 72 28, 0, 0)) (e_L 28 (0, ei_push (0, 3600) 31, 0, 0))) (e_T 31 (e_L 31 (0, ei_load 1 0 32, 0, 0)) (e_T 32 (e_L 32 (0, ei_bin eF_add 33, 0, 0)) (e_L 33 (0, ei_load 0 2 34, 0, 0))))))) (e_T 48 (e_T 41 (e_T 37 (e_T 34 (e_L 34 (0, ei_getf eft elay 12 81 37, 0, 0)) (e_L 37 (0, ei_ast elay false 38, 0, 0))) (e_T 38 (e_L 38 (0, ei_load 0 2 39, 0, 0)) (e_T 39 (e_L 39 (0, ei_push (0, 30) 41, 0, 0)) (e_L 41 (0, ei_push (0, 0) 42, 0, 0))))) (e_T 45 (e_T 42 (e_L 42 (2, e_nof, 336, 3)) (e_L 45 (0, ei_stor 3 0 46, 0, 0))) (e_T 46 (e_L 46 (0, ei_load 0 2 47, 0, 0)) (e_T 47 (e_L 47 (0, ei_load 0 2 48, 0, 0)) (e_L 48 (0, ei_push (0, 20) 50, 0, 0)))))) (e_T 60 (e_T 53 (e_T 50 (e_L 50 (2, e_nof, 332, 2)) (e_L 53 (2, e_nof, 334, 2))) (e_T 56 (e_L 56 (0, ei_load 0 2 57, 0, 0)) (e_T 57 (e_L 57 (2, e_nof, 339, 1)) (e_L 60 (0, ei_load 0 2 61, 0, 0))))) (e_T 62 (e_T 61 (e_L 61 (0, ei_load 0 2 62, 0, 0)) (e_L 62 (0, ei_push (0, 58) 64, 0, 0))) (e_T 64 (e_L 64 (2, e_nof, 331, 2)) (e_T 67 (e_L 67 (2, e_nof, 334, 2)) (e_L 70 (0, ei_load 0 2 71, 0, 0))))))))
set_option maxRecDepth 20000 in
set_option maxHeartbeats 4000000 in
theorem te_351_0_ok : ∀ pc, e_EOq eft cls elay eI n_351 pc (te_351_0 pc) :=
  (e_Tok2
  (e_Tok2
  (e_Tok2
  (e_Tok2
  (e_Tok2
  (e_Lok (ld_aload_n_0 (x_dk dn_351_0_0_ok 0 rfl)))
  (e_Lok (lk_12_578 ho_351 (x_dk dn_351_0_0_ok 1 rfl))))
  (e_Tok2
  (e_Lok (ld_aload_n_0 (x_dk dn_351_0_0_ok 2 rfl)))
  (e_Tok2
  (e_Lok (lk_12_626g ho_351 (x_dk dn_351_0_0_ok 3 rfl)))
  (e_Lok (e_st (I := eI) (er_istore_n (i := 1) (x_dk dn_351_0_0_ok 4 rfl) (by decide +kernel)) nx_stor)))))
  (e_Tok2
  (e_Tok2
  (e_Lok (ld_aload_n_0 (x_dk dn_351_0_0_ok 5 rfl)))
  (e_Lok (e_st (I := eI) (er_dup (x_dk dn_351_0_0_ok 6 rfl)) (nx_stk bf_dup))))
  (e_Tok2
  (e_Lok (lk_12_626g ho_351 (x_dk dn_351_0_0_ok 7 rfl)))
  (e_Tok2
  (e_Lok (ps_iconst_1 (x_dk dn_351_0_0_ok 8 rfl)))
  (e_Lok (sm_iadd (x_dk dn_351_0_0_ok 9 rfl)))))))
  (e_Tok2
  (e_Tok2
  (e_Tok2
  (e_Lok (lk_12_626p ho_351 (x_dk dn_351_0_0_ok 10 rfl)))
  (e_Lok (ld_aload_n_0 (x_dk dn_351_0_0_ok 11 rfl))))
  (e_Tok2
  (e_Lok (lk_12_620g ho_351 (x_dk dn_351_0_0_ok 12 rfl)))
  (e_Tok2
  (e_Lok (e_st (I := eI) (er_istore_n (i := 2) (x_dk dn_351_0_0_ok 13 rfl) (by decide +kernel)) nx_stor))
  (e_Lok (ld_aload_n_0 (x_dk dn_351_0_0_ok 14 rfl))))))
  (e_Tok2
  (e_Tok2
  (e_Lok (lk_12_192g ho_351 (x_dk dn_351_0_0_ok 15 rfl)))
  (e_Lok (ps_sipush_3600 (x_dk dn_351_0_0_ok 16 rfl))))
  (e_Tok2
  (e_Lok (ld_iload_n_1 (x_dk dn_351_0_0_ok 17 rfl)))
  (e_Tok2
  (e_Lok (sm_iadd (x_dk dn_351_0_0_ok 18 rfl)))
  (e_Lok (ld_aload_n_0 (x_dk dn_351_0_0_ok 19 rfl))))))))
  (e_Tok2
  (e_Tok2
  (e_Tok2
  (e_Tok2
  (e_Lok (lk_12_549g ho_351 (x_dk dn_351_0_0_ok 20 rfl)))
  (e_Lok (sm_iastore (x_dk dn_351_0_0_ok 21 rfl))))
  (e_Tok2
  (e_Lok (ld_aload_n_0 (x_dk dn_351_0_0_ok 22 rfl)))
  (e_Tok2
  (e_Lok (ps_bipush_30 (x_dk dn_351_0_0_ok 23 rfl)))
  (e_Lok (ps_iconst_0 (x_dk dn_351_0_0_ok 24 rfl))))))
  (e_Tok2
  (e_Tok2
  (e_Lok (lk_12_565 ho_351 (x_dk dn_351_0_1_ok 0 rfl)))
  (e_Lok (e_st (I := eI) (er_istore_n (i := 3) (x_dk dn_351_0_1_ok 1 rfl) (by decide +kernel)) nx_stor)))
  (e_Tok2
  (e_Lok (ld_aload_n_0 (x_dk dn_351_0_1_ok 2 rfl)))
  (e_Tok2
  (e_Lok (ld_aload_n_0 (x_dk dn_351_0_1_ok 3 rfl)))
  (e_Lok (ps_bipush_20 (x_dk dn_351_0_1_ok 4 rfl)))))))
  (e_Tok2
  (e_Tok2
  (e_Tok2
  (e_Lok (lk_12_562 ho_351 (x_dk dn_351_0_1_ok 5 rfl)))
  (e_Lok (lk_12_555 ho_351 (x_dk dn_351_0_1_ok 6 rfl))))
  (e_Tok2
  (e_Lok (ld_aload_n_0 (x_dk dn_351_0_1_ok 7 rfl)))
  (e_Tok2
  (e_Lok (lk_12_592 ho_351 (x_dk dn_351_0_1_ok 8 rfl)))
  (e_Lok (ld_aload_n_0 (x_dk dn_351_0_1_ok 9 rfl))))))
  (e_Tok2
  (e_Tok2
  (e_Lok (ld_aload_n_0 (x_dk dn_351_0_1_ok 10 rfl)))
  (e_Lok (ps_bipush_58 (x_dk dn_351_0_1_ok 11 rfl))))
  (e_Tok2
  (e_Lok (lk_12_586 ho_351 (x_dk dn_351_0_1_ok 12 rfl)))
  (e_Tok2
  (e_Lok (lk_12_555 ho_351 (x_dk dn_351_0_1_ok 13 rfl)))
  (e_Lok (ld_aload_n_0 (x_dk dn_351_0_1_ok 14 rfl)))))))))
def te_351_40 : Nat → eE := (e_T 104 (e_T 88 (e_T 79 (e_T 73 (e_T 71 (e_L 71 (0, ei_push (0, 47) 73, 0, 0)) (e_L 73 (0, ei_push (0, 0) 74, 0, 0))) (e_T 74 (e_L 74 (2, e_nof, 336, 3)) (e_T 77 (e_L 77 (0, ei_stor 4 0 79, 0, 0)) (e_L 79 (0, ei_load 0 2 80, 0, 0))))) (e_T 81 (e_T 80 (e_L 80 (0, ei_load 1 0 81, 0, 0)) (e_L 81 (0, ei_putf eft elay 12 82 0 84, 0, 0))) (e_T 84 (e_L 84 (0, ei_load 0 2 85, 0, 0)) (e_T 85 (e_L 85 (2, e_nof, 348, 1)) (e_L 88 (0, ei_load 0 2 89, 0, 0)))))) (e_T 96 (e_T 90 (e_T 89 (e_L 89 (0, ei_load 2 0 90, 0, 0)) (e_L 90 (0, ei_putf eft elay 12 82 0 93, 0, 0))) (e_T 93 (e_L 93 (0, ei_load 0 2 94, 0, 0)) (e_T 94 (e_L 94 (0, ei_push (0, 48) 96, 0, 0)) (e_L 96 (0, ei_load 3 0 97, 0, 0))))) (e_T 100 (e_T 97 (e_L 97 (2, e_nof, 336, 3)) (e_L 100 (0, ei_stk ef_pop 101, 0, 0))) (e_T 101 (e_L 101 (0, ei_load 0 2 102, 0, 0)) (e_T 102 (e_L 102 (0, ei_load 4 0 104, 0, 0)) (e_L 104 (2, e_nof, 337, 2))))))) (e_T 122 (e_T 115 (e_T 108 (e_T 107 (e_L 107 (0, ei_load 0 2 108, 0, 0)) (e_L 108 (0, ei_getf eft elay 12 73 111, 0, 0))) (e_T 111 (e_L 111 (0, ei_push (0, 3600) 114, 0, 0)) (e_T 114 (e_L 114 (0, ei_load 1 0 115, 0, 0)) (e_L 115 (0, ei_bin eF_add 116, 0, 0))))) (e_T 117 (e_T 116 (e_L 116 (0, ei_load 0 2 117, 0, 0)) (e_L 117 (0, ei_getf eft elay 12 78 120, 0, 0))) (e_T 120 (e_L 120 (0, ei_ast elay false 121, 0, 0)) (e_T 121 (e_L 121 (0, ei_load 0 2 122, 0, 0)) (e_L 122 (0, ei_load 0 2 123, 0, 0)))))) (e_T 131 (e_T 124 (e_T 123 (e_L 123 (0, ei_push (0, 2) 124, 0, 0)) (e_L 124 (2, e_nof, 332, 2))) (e_T 127 (e_L 127 (2, e_nof, 334, 2)) (e_T 130 (e_L 130 (0, ei_load 0 2 131, 0, 0)) (e_L 131 (0, ei_stk ef_dup 132, 0, 0))))) (e_T 135 (e_T 132 (e_L 132 (0, ei_getf eft elay 12 83 135, 0, 0)) (e_L 135 (0, ei_push (0, 1) 136, 0, 0))) (e_T 136 (e_L 136 (0, ei_bin eF_sub 137, 0, 0)) (e_T 137 (e_L 137 (0, ei_putf eft elay 12 83 0 140, 0, 0)) (e_L 140 (1, e_nof, 0, 0))))))))
set_option maxRecDepth 20000 in
set_option maxHeartbeats 4000000 in
theorem te_351_40_ok : ∀ pc, e_EOq eft cls elay eI n_351 pc (te_351_40 pc) :=
  (e_Tok2
  (e_Tok2
  (e_Tok2
  (e_Tok2
  (e_Tok2
  (e_Lok (ps_bipush_47 (x_dk dn_351_0_1_ok 15 rfl)))
  (e_Lok (ps_iconst_0 (x_dk dn_351_0_1_ok 16 rfl))))
  (e_Tok2
  (e_Lok (lk_12_565 ho_351 (x_dk dn_351_0_1_ok 17 rfl)))
  (e_Tok2
  (e_Lok (e_st (I := eI) (er_istore (i := 4) (x_dk dn_351_0_1_ok 18 rfl) (by decide +kernel)) nx_stor))
  (e_Lok (ld_aload_n_0 (x_dk dn_351_0_1_ok 19 rfl))))))
  (e_Tok2
  (e_Tok2
  (e_Lok (ld_iload_n_1 (x_dk dn_351_0_1_ok 20 rfl)))
  (e_Lok (lk_12_620p ho_351 (x_dk dn_351_0_1_ok 21 rfl))))
  (e_Tok2
  (e_Lok (ld_aload_n_0 (x_dk dn_351_0_1_ok 22 rfl)))
  (e_Tok2
  (e_Lok (lk_12_623 ho_351 (x_dk dn_351_0_1_ok 23 rfl)))
  (e_Lok (ld_aload_n_0 (x_dk dn_351_0_1_ok 24 rfl)))))))
  (e_Tok2
  (e_Tok2
  (e_Tok2
  (e_Lok (ld_iload_n_2 (x_dk dn_351_0_2_ok 0 rfl)))
  (e_Lok (lk_12_620p ho_351 (x_dk dn_351_0_2_ok 1 rfl))))
  (e_Tok2
  (e_Lok (ld_aload_n_0 (x_dk dn_351_0_2_ok 2 rfl)))
  (e_Tok2
  (e_Lok (ps_bipush_48 (x_dk dn_351_0_2_ok 3 rfl)))
  (e_Lok (ld_iload_n_3 (x_dk dn_351_0_2_ok 4 rfl))))))
  (e_Tok2
  (e_Tok2
  (e_Lok (lk_12_565 ho_351 (x_dk dn_351_0_2_ok 5 rfl)))
  (e_Lok (e_st (I := eI) (er_pop (x_dk dn_351_0_2_ok 6 rfl)) (nx_stk bf_pop))))
  (e_Tok2
  (e_Lok (ld_aload_n_0 (x_dk dn_351_0_2_ok 7 rfl)))
  (e_Tok2
  (e_Lok (ld_iload_4 (x_dk dn_351_0_2_ok 8 rfl)))
  (e_Lok (lk_12_575 ho_351 (x_dk dn_351_0_2_ok 9 rfl))))))))
  (e_Tok2
  (e_Tok2
  (e_Tok2
  (e_Tok2
  (e_Lok (ld_aload_n_0 (x_dk dn_351_0_2_ok 10 rfl)))
  (e_Lok (lk_12_195g ho_351 (x_dk dn_351_0_2_ok 11 rfl))))
  (e_Tok2
  (e_Lok (ps_sipush_3600 (x_dk dn_351_0_2_ok 12 rfl)))
  (e_Tok2
  (e_Lok (ld_iload_n_1 (x_dk dn_351_0_2_ok 13 rfl)))
  (e_Lok (sm_iadd (x_dk dn_351_0_2_ok 14 rfl))))))
  (e_Tok2
  (e_Tok2
  (e_Lok (ld_aload_n_0 (x_dk dn_351_0_2_ok 15 rfl)))
  (e_Lok (lk_12_546g ho_351 (x_dk dn_351_0_2_ok 16 rfl))))
  (e_Tok2
  (e_Lok (sm_iastore (x_dk dn_351_0_2_ok 17 rfl)))
  (e_Tok2
  (e_Lok (ld_aload_n_0 (x_dk dn_351_0_2_ok 18 rfl)))
  (e_Lok (ld_aload_n_0 (x_dk dn_351_0_2_ok 19 rfl)))))))
  (e_Tok2
  (e_Tok2
  (e_Tok2
  (e_Lok (ps_iconst_2 (x_dk dn_351_0_2_ok 20 rfl)))
  (e_Lok (lk_12_562 ho_351 (x_dk dn_351_0_2_ok 21 rfl))))
  (e_Tok2
  (e_Lok (lk_12_555 ho_351 (x_dk dn_351_0_2_ok 22 rfl)))
  (e_Tok2
  (e_Lok (ld_aload_n_0 (x_dk dn_351_0_2_ok 23 rfl)))
  (e_Lok (e_st (I := eI) (er_dup (x_dk dn_351_0_2_ok 24 rfl)) (nx_stk bf_dup))))))
  (e_Tok2
  (e_Tok2
  (e_Lok (lk_12_542g ho_351 (x_dk dn_351_0_3_ok 0 rfl)))
  (e_Lok (ps_iconst_1 (x_dk dn_351_0_3_ok 1 rfl))))
  (e_Tok2
  (e_Lok (sm_isub (x_dk dn_351_0_3_ok 2 rfl)))
  (e_Tok2
  (e_Lok (lk_12_542p ho_351 (x_dk dn_351_0_3_ok 3 rfl)))
  (e_Lok (e_rt (I := eI) (k := 0) ⟨(x_dk dn_351_0_3_ok 4 rfl), rfl⟩))))))))
def te_351 : Nat → eE := (e_T 70 te_351_0 te_351_40)
theorem te_351_ok : ∀ pc, e_EOq eft cls elay eI n_351 pc (te_351 pc) := (e_Tok2 (te_351_0_ok) (te_351_40_ok))
theorem ho_352 : (xm_y n_352).cls = "RobotCellHouseModel" := rfl
def dn_352_0_0 : List (Nat × Instr × Nat) := [(0, .aload_n 0, 1), (1, .invokevirtual 578, 3), (4, .aload_n 0, 1), (5, .bipush 30, 2), (7, .iconst 0, 1), (8, .invokevirtual 565, 3), (11, .pop, 1), (12, .aload_n 0, 1), (13, .getfield 549, 3), (16, .istore_n 1, 1), (17, .aload_n 0, 1), (18, .getfield 629, 3), (21, .istore_n 2, 1), (22, .aload_n 0, 1), (23, .dup, 1), (24, .getfield 629, 3), (27, .iconst 1, 1), (28, .iadd, 1), (29, .putfield 629, 3), (32, .sipush 3600, 3), (35, .iload_n 2, 1), (36, .iadd, 1), (37, .istore_n 3, 1), (38, .aload_n 0, 1), (39, .getfield 180, 3)]
set_option maxRecDepth 20000 in
theorem dn_352_0_0_ok : dn_352_0_0.all (fun q => decide (decode (xm_b n_352) q.1 = .ok (q.2.1, q.2.2))) = true := xa_g_ok (by decide +kernel)
def dn_352_0_1 : List (Nat × Instr × Nat) := [(42, .iload_n 3, 1), (43, .iload_n 1, 1), (44, .iastore, 1), (45, .aload_n 0, 1), (46, .getfield 183, 3), (49, .iload_n 3, 1), (50, .iconst (-1), 1), (51, .iastore, 1), (52, .aload_n 0, 1), (53, .getfield 186, 3), (56, .iload_n 3, 1), (57, .iconst (-1), 1), (58, .iastore, 1), (59, .aload_n 0, 1), (60, .aload_n 0, 1), (61, .bipush 21, 2), (63, .invokevirtual 562, 3), (66, .invokevirtual 555, 3), (69, .aload_n 0, 1), (70, .aload_n 0, 1), (71, .bipush 58, 2), (73, .invokevirtual 586, 3), (76, .invokevirtual 555, 3), (79, .aload_n 0, 1), (80, .iconst 3, 1)]
set_option maxRecDepth 20000 in
theorem dn_352_0_1_ok : dn_352_0_1.all (fun q => decide (decode (xm_b n_352) q.1 = .ok (q.2.1, q.2.2))) = true := xa_g_ok (by decide +kernel)
def dn_352_0_2 : List (Nat × Instr × Nat) := [(81, .iload_n 2, 1), (82, .imul, 1), (83, .putfield 549, 3), (86, .aload_n 0, 1), (87, .invokevirtual 623, 3), (90, .aload_n 0, 1), (91, .bipush 49, 2), (93, .iload_n 2, 1), (94, .invokevirtual 565, 3), (97, .pop, 1), (98, .aload_n 0, 1), (99, .getfield 530, 3), (102, .ifCond .ne 57, 3), (105, .aload_n 0, 1), (106, .bipush 22, 2), (108, .invokevirtual 562, 3), (111, .ifCond .eq 48, 3), (114, .aload_n 0, 1), (115, .invokevirtual 536, 3), (118, .aload_n 0, 1), (119, .aload_n 0, 1), (120, .bipush 58, 2), (122, .invokevirtual 586, 3), (125, .invokevirtual 555, 3), (128, .aload_n 0, 1)]
set_option maxRecDepth 20000 in
theorem dn_352_0_2_ok : dn_352_0_2.all (fun q => decide (decode (xm_b n_352) q.1 = .ok (q.2.1, q.2.2))) = true := xa_g_ok (by decide +kernel)
def dn_352_0_3 : List (Nat × Instr × Nat) := [(129, .iconst 3, 1), (130, .iload_n 2, 1), (131, .imul, 1), (132, .iconst 1, 1), (133, .iadd, 1), (134, .putfield 549, 3), (137, .aload_n 0, 1), (138, .getfield 183, 3), (141, .iload_n 3, 1), (142, .aload_n 0, 1), (143, .getfield 546, 3), (146, .iastore, 1), (147, .aload_n 0, 1), (148, .invokevirtual 623, 3), (151, .aload_n 0, 1), (152, .bipush 50, 2), (154, .iload_n 2, 1), (155, .invokevirtual 565, 3), (158, .pop, 1), (159, .aload_n 0, 1), (160, .getfield 530, 3), (163, .ifCond .ne 57, 3), (166, .aload_n 0, 1), (167, .bipush 23, 2), (169, .invokevirtual 562, 3)]
set_option maxRecDepth 20000 in
theorem dn_352_0_3_ok : dn_352_0_3.all (fun q => decide (decode (xm_b n_352) q.1 = .ok (q.2.1, q.2.2))) = true := xa_g_ok (by decide +kernel)
def dn_352_1_0 : List (Nat × Instr × Nat) := [(172, .ifCond .eq 48, 3), (175, .aload_n 0, 1), (176, .invokevirtual 536, 3), (179, .aload_n 0, 1), (180, .aload_n 0, 1), (181, .bipush 58, 2), (183, .invokevirtual 586, 3), (186, .invokevirtual 555, 3), (189, .aload_n 0, 1), (190, .iconst 3, 1), (191, .iload_n 2, 1), (192, .imul, 1), (193, .iconst 2, 1), (194, .iadd, 1), (195, .putfield 549, 3), (198, .aload_n 0, 1), (199, .getfield 186, 3), (202, .iload_n 3, 1), (203, .aload_n 0, 1), (204, .getfield 546, 3), (207, .iastore, 1), (208, .aload_n 0, 1), (209, .invokevirtual 623, 3), (212, .aload_n 0, 1), (213, .bipush 51, 2)]
set_option maxRecDepth 20000 in
theorem dn_352_1_0_ok : dn_352_1_0.all (fun q => decide (decode (xm_b n_352) q.1 = .ok (q.2.1, q.2.2))) = true := xa_g_ok (by decide +kernel)
def dn_352_1_1 : List (Nat × Instr × Nat) := [(215, .iload_n 2, 1), (216, .invokevirtual 565, 3), (219, .pop, 1), (220, .aload_n 0, 1), (221, .iload_n 1, 1), (222, .putfield 549, 3), (225, .aload_n 0, 1), (226, .getfield 189, 3), (229, .iload_n 3, 1), (230, .aload_n 0, 1), (231, .getfield 546, 3), (234, .iastore, 1), (235, .aload_n 0, 1), (236, .aload_n 0, 1), (237, .iconst 2, 1), (238, .invokevirtual 562, 3), (241, .invokevirtual 555, 3), (244, .aload_n 0, 1), (245, .dup, 1), (246, .getfield 542, 3), (249, .iconst 1, 1), (250, .isub, 1), (251, .putfield 542, 3), (254, .return_, 1)]
set_option maxRecDepth 20000 in
theorem dn_352_1_1_ok : dn_352_1_1.all (fun q => decide (decode (xm_b n_352) q.1 = .ok (q.2.1, q.2.2))) = true := xa_g_ok (by decide +kernel)
def te_352_0 : Nat → eE := (e_T 28 (e_T 13 (e_T 5 (e_T 1 (e_T 0 (e_L 0 (0, ei_load 0 2 1, 0, 0)) (e_L 1 (2, e_nof, 335, 1))) (e_T 4 (e_L 4 (0, ei_load 0 2 5, 0, 0)) (e_L 5 (0, ei_push (0, 30) 7, 0, 0)))) (e_T 8 (e_T 7 (e_L 7 (0, ei_push (0, 0) 8, 0, 0)) (e_L 8 (2, e_nof, 336, 3))) (e_T 11 (e_L 11 (0, ei_stk ef_pop 12, 0, 0)) (e_T 12 (e_L 12 (0, ei_load 0 2 13, 0, 0)) (e_L 13 (0, ei_getf eft elay 12 81 16, 0, 0)))))) (e_T 21 (e_T 17 (e_T 16 (e_L 16 (0, ei_stor 1 0 17, 0, 0)) (e_L 17 (0, ei_load 0 2 18, 0, 0))) (e_T 18 (e_L 18 (0, ei_getf eft elay 12 79 21, 0, 0)) (e_L 21 (0, ei_stor 2 0 22, 0, 0)))) (e_T 23 (e_T 22 (e_L 22 (0, ei_load 0 2 23, 0, 0)) (e_L 23 (0, ei_stk ef_dup 24, 0, 0))) (e_T 24 (e_L 24 (0, ei_getf eft elay 12 79 27, 0, 0)) (e_T 27 (e_L 27 (0, ei_push (0, 1) 28, 0, 0)) (e_L 28 (0, ei_bin eF_add 29, 0, 0))))))) (e_T 43 (e_T 36 (e_T 32 (e_T 29 (e_L 29 (0, ei_putf eft elay 12 79 0 32, 0, 0)) (e_L 32 (0, ei_push (0, 3600) 35, 0, 0))) (e_T 35 (e_L 35 (0, ei_load 2 0 36, 0, 0)) (e_L 36 (0, ei_bin eF_add 37, 0, 0)))) (e_T 38 (e_T 37 (e_L 37 (0, ei_stor 3 0 38, 0, 0)) (e_L 38 (0, ei_load 0 2 39, 0, 0))) (e_T 39 (e_L 39 (0, ei_getf eft elay 12 68 42, 0, 0)) (e_T 42 (e_L 42 (0, ei_load 3 0 43, 0, 0)) (e_L 43 (0, ei_load 1 0 44, 0, 0)))))) (e_T 50 (e_T 45 (e_T 44 (e_L 44 (0, ei_ast elay false 45, 0, 0)) (e_L 45 (0, ei_load 0 2 46, 0, 0))) (e_T 46 (e_L 46 (0, ei_getf eft elay 12 69 49, 0, 0)) (e_T 49 (e_L 49 (0, ei_load 3 0 50, 0, 0)) (e_L 50 (0, ei_push (0, (-1)) 51, 0, 0))))) (e_T 52 (e_T 51 (e_L 51 (0, ei_ast elay false 52, 0, 0)) (e_L 52 (0, ei_load 0 2 53, 0, 0))) (e_T 53 (e_L 53 (0, ei_getf eft elay 12 70 56, 0, 0)) (e_T 56 (e_L 56 (0, ei_load 3 0 57, 0, 0)) (e_L 57 (0, ei_push (0, (-1)) 58, 0, 0))))))))
set_option maxRecDepth 20000 in
set_option maxHeartbeats 4000000 in
theorem te_352_0_ok : ∀ pc, e_EOq eft cls elay eI n_352 pc (te_352_0 pc) :=
  (e_Tok2
  (e_Tok2
  (e_Tok2
  (e_Tok2
  (e_Tok2
  (e_Lok (ld_aload_n_0 (x_dk dn_352_0_0_ok 0 rfl)))
  (e_Lok (lk_12_578 ho_352 (x_dk dn_352_0_0_ok 1 rfl))))
  (e_Tok2
  (e_Lok (ld_aload_n_0 (x_dk dn_352_0_0_ok 2 rfl)))
  (e_Lok (ps_bipush_30 (x_dk dn_352_0_0_ok 3 rfl)))))
  (e_Tok2
  (e_Tok2
  (e_Lok (ps_iconst_0 (x_dk dn_352_0_0_ok 4 rfl)))
  (e_Lok (lk_12_565 ho_352 (x_dk dn_352_0_0_ok 5 rfl))))
  (e_Tok2
  (e_Lok (e_st (I := eI) (er_pop (x_dk dn_352_0_0_ok 6 rfl)) (nx_stk bf_pop)))
  (e_Tok2
  (e_Lok (ld_aload_n_0 (x_dk dn_352_0_0_ok 7 rfl)))
  (e_Lok (lk_12_549g ho_352 (x_dk dn_352_0_0_ok 8 rfl)))))))
  (e_Tok2
  (e_Tok2
  (e_Tok2
  (e_Lok (e_st (I := eI) (er_istore_n (i := 1) (x_dk dn_352_0_0_ok 9 rfl) (by decide +kernel)) nx_stor))
  (e_Lok (ld_aload_n_0 (x_dk dn_352_0_0_ok 10 rfl))))
  (e_Tok2
  (e_Lok (lk_12_629g ho_352 (x_dk dn_352_0_0_ok 11 rfl)))
  (e_Lok (e_st (I := eI) (er_istore_n (i := 2) (x_dk dn_352_0_0_ok 12 rfl) (by decide +kernel)) nx_stor))))
  (e_Tok2
  (e_Tok2
  (e_Lok (ld_aload_n_0 (x_dk dn_352_0_0_ok 13 rfl)))
  (e_Lok (e_st (I := eI) (er_dup (x_dk dn_352_0_0_ok 14 rfl)) (nx_stk bf_dup))))
  (e_Tok2
  (e_Lok (lk_12_629g ho_352 (x_dk dn_352_0_0_ok 15 rfl)))
  (e_Tok2
  (e_Lok (ps_iconst_1 (x_dk dn_352_0_0_ok 16 rfl)))
  (e_Lok (sm_iadd (x_dk dn_352_0_0_ok 17 rfl))))))))
  (e_Tok2
  (e_Tok2
  (e_Tok2
  (e_Tok2
  (e_Lok (lk_12_629p ho_352 (x_dk dn_352_0_0_ok 18 rfl)))
  (e_Lok (ps_sipush_3600 (x_dk dn_352_0_0_ok 19 rfl))))
  (e_Tok2
  (e_Lok (ld_iload_n_2 (x_dk dn_352_0_0_ok 20 rfl)))
  (e_Lok (sm_iadd (x_dk dn_352_0_0_ok 21 rfl)))))
  (e_Tok2
  (e_Tok2
  (e_Lok (e_st (I := eI) (er_istore_n (i := 3) (x_dk dn_352_0_0_ok 22 rfl) (by decide +kernel)) nx_stor))
  (e_Lok (ld_aload_n_0 (x_dk dn_352_0_0_ok 23 rfl))))
  (e_Tok2
  (e_Lok (lk_12_180g ho_352 (x_dk dn_352_0_0_ok 24 rfl)))
  (e_Tok2
  (e_Lok (ld_iload_n_3 (x_dk dn_352_0_1_ok 0 rfl)))
  (e_Lok (ld_iload_n_1 (x_dk dn_352_0_1_ok 1 rfl)))))))
  (e_Tok2
  (e_Tok2
  (e_Tok2
  (e_Lok (sm_iastore (x_dk dn_352_0_1_ok 2 rfl)))
  (e_Lok (ld_aload_n_0 (x_dk dn_352_0_1_ok 3 rfl))))
  (e_Tok2
  (e_Lok (lk_12_183g ho_352 (x_dk dn_352_0_1_ok 4 rfl)))
  (e_Tok2
  (e_Lok (ld_iload_n_3 (x_dk dn_352_0_1_ok 5 rfl)))
  (e_Lok (ps_iconst_m1 (x_dk dn_352_0_1_ok 6 rfl))))))
  (e_Tok2
  (e_Tok2
  (e_Lok (sm_iastore (x_dk dn_352_0_1_ok 7 rfl)))
  (e_Lok (ld_aload_n_0 (x_dk dn_352_0_1_ok 8 rfl))))
  (e_Tok2
  (e_Lok (lk_12_186g ho_352 (x_dk dn_352_0_1_ok 9 rfl)))
  (e_Tok2
  (e_Lok (ld_iload_n_3 (x_dk dn_352_0_1_ok 10 rfl)))
  (e_Lok (ps_iconst_m1 (x_dk dn_352_0_1_ok 11 rfl)))))))))
def te_352_37 : Nat → eE := (e_T 87 (e_T 71 (e_T 61 (e_T 59 (e_T 58 (e_L 58 (0, ei_ast elay false 59, 0, 0)) (e_L 59 (0, ei_load 0 2 60, 0, 0))) (e_T 60 (e_L 60 (0, ei_load 0 2 61, 0, 0)) (e_L 61 (0, ei_push (0, 21) 63, 0, 0)))) (e_T 66 (e_T 63 (e_L 63 (2, e_nof, 332, 2)) (e_L 66 (2, e_nof, 334, 2))) (e_T 69 (e_L 69 (0, ei_load 0 2 70, 0, 0)) (e_T 70 (e_L 70 (0, ei_load 0 2 71, 0, 0)) (e_L 71 (0, ei_push (0, 58) 73, 0, 0)))))) (e_T 80 (e_T 76 (e_T 73 (e_L 73 (2, e_nof, 331, 2)) (e_L 76 (2, e_nof, 334, 2))) (e_T 79 (e_L 79 (0, ei_load 0 2 80, 0, 0)) (e_L 80 (0, ei_push (0, 3) 81, 0, 0)))) (e_T 82 (e_T 81 (e_L 81 (0, ei_load 2 0 82, 0, 0)) (e_L 82 (0, ei_bin eF_mul 83, 0, 0))) (e_T 83 (e_L 83 (0, ei_putf eft elay 12 81 0 86, 0, 0)) (e_T 86 (e_L 86 (0, ei_load 0 2 87, 0, 0)) (e_L 87 (2, e_nof, 348, 1))))))) (e_T 105 (e_T 94 (e_T 91 (e_T 90 (e_L 90 (0, ei_load 0 2 91, 0, 0)) (e_L 91 (0, ei_push (0, 49) 93, 0, 0))) (e_T 93 (e_L 93 (0, ei_load 2 0 94, 0, 0)) (e_L 94 (2, e_nof, 336, 3)))) (e_T 98 (e_T 97 (e_L 97 (0, ei_stk ef_pop 98, 0, 0)) (e_L 98 (0, ei_load 0 2 99, 0, 0))) (e_T 99 (e_L 99 (0, ei_getf eft elay 12 88 102, 0, 0)) (e_T 102 (e_L 102 (0, ei_if1 1 159 105, 0, 0)) (e_L 105 (0, ei_load 0 2 106, 0, 0)))))) (e_T 115 (e_T 108 (e_T 106 (e_L 106 (0, ei_push (0, 22) 108, 0, 0)) (e_L 108 (2, e_nof, 332, 2))) (e_T 111 (e_L 111 (0, ei_if1 0 159 114, 0, 0)) (e_T 114 (e_L 114 (0, ei_load 0 2 115, 0, 0)) (e_L 115 (2, e_nof, 327, 1))))) (e_T 119 (e_T 118 (e_L 118 (0, ei_load 0 2 119, 0, 0)) (e_L 119 (0, ei_load 0 2 120, 0, 0))) (e_T 120 (e_L 120 (0, ei_push (0, 58) 122, 0, 0)) (e_T 122 (e_L 122 (2, e_nof, 331, 2)) (e_L 125 (2, e_nof, 334, 2))))))))
set_option maxRecDepth 20000 in
set_option maxHeartbeats 4000000 in
theorem te_352_37_ok : ∀ pc, e_EOq eft cls elay eI n_352 pc (te_352_37 pc) :=
  (e_Tok2
  (e_Tok2
  (e_Tok2
  (e_Tok2
  (e_Tok2
  (e_Lok (sm_iastore (x_dk dn_352_0_1_ok 12 rfl)))
  (e_Lok (ld_aload_n_0 (x_dk dn_352_0_1_ok 13 rfl))))
  (e_Tok2
  (e_Lok (ld_aload_n_0 (x_dk dn_352_0_1_ok 14 rfl)))
  (e_Lok (ps_bipush_21 (x_dk dn_352_0_1_ok 15 rfl)))))
  (e_Tok2
  (e_Tok2
  (e_Lok (lk_12_562 ho_352 (x_dk dn_352_0_1_ok 16 rfl)))
  (e_Lok (lk_12_555 ho_352 (x_dk dn_352_0_1_ok 17 rfl))))
  (e_Tok2
  (e_Lok (ld_aload_n_0 (x_dk dn_352_0_1_ok 18 rfl)))
  (e_Tok2
  (e_Lok (ld_aload_n_0 (x_dk dn_352_0_1_ok 19 rfl)))
  (e_Lok (ps_bipush_58 (x_dk dn_352_0_1_ok 20 rfl)))))))
  (e_Tok2
  (e_Tok2
  (e_Tok2
  (e_Lok (lk_12_586 ho_352 (x_dk dn_352_0_1_ok 21 rfl)))
  (e_Lok (lk_12_555 ho_352 (x_dk dn_352_0_1_ok 22 rfl))))
  (e_Tok2
  (e_Lok (ld_aload_n_0 (x_dk dn_352_0_1_ok 23 rfl)))
  (e_Lok (ps_iconst_3 (x_dk dn_352_0_1_ok 24 rfl)))))
  (e_Tok2
  (e_Tok2
  (e_Lok (ld_iload_n_2 (x_dk dn_352_0_2_ok 0 rfl)))
  (e_Lok (sm_imul (x_dk dn_352_0_2_ok 1 rfl))))
  (e_Tok2
  (e_Lok (lk_12_549p ho_352 (x_dk dn_352_0_2_ok 2 rfl)))
  (e_Tok2
  (e_Lok (ld_aload_n_0 (x_dk dn_352_0_2_ok 3 rfl)))
  (e_Lok (lk_12_623 ho_352 (x_dk dn_352_0_2_ok 4 rfl))))))))
  (e_Tok2
  (e_Tok2
  (e_Tok2
  (e_Tok2
  (e_Lok (ld_aload_n_0 (x_dk dn_352_0_2_ok 5 rfl)))
  (e_Lok (ps_bipush_49 (x_dk dn_352_0_2_ok 6 rfl))))
  (e_Tok2
  (e_Lok (ld_iload_n_2 (x_dk dn_352_0_2_ok 7 rfl)))
  (e_Lok (lk_12_565 ho_352 (x_dk dn_352_0_2_ok 8 rfl)))))
  (e_Tok2
  (e_Tok2
  (e_Lok (e_st (I := eI) (er_pop (x_dk dn_352_0_2_ok 9 rfl)) (nx_stk bf_pop)))
  (e_Lok (ld_aload_n_0 (x_dk dn_352_0_2_ok 10 rfl))))
  (e_Tok2
  (e_Lok (lk_12_530g ho_352 (x_dk dn_352_0_2_ok 11 rfl)))
  (e_Tok2
  (e_Lok (e_st (I := eI) (er_ifne (off := 57) (tg := 159) (x_dk dn_352_0_2_ok 12 rfl) (by decide)) nx_if1))
  (e_Lok (ld_aload_n_0 (x_dk dn_352_0_2_ok 13 rfl)))))))
  (e_Tok2
  (e_Tok2
  (e_Tok2
  (e_Lok (ps_bipush_22 (x_dk dn_352_0_2_ok 14 rfl)))
  (e_Lok (lk_12_562 ho_352 (x_dk dn_352_0_2_ok 15 rfl))))
  (e_Tok2
  (e_Lok (e_st (I := eI) (er_ifeq (off := 48) (tg := 159) (x_dk dn_352_0_2_ok 16 rfl) (by decide)) nx_if1))
  (e_Tok2
  (e_Lok (ld_aload_n_0 (x_dk dn_352_0_2_ok 17 rfl)))
  (e_Lok (lk_12_536 ho_352 (x_dk dn_352_0_2_ok 18 rfl))))))
  (e_Tok2
  (e_Tok2
  (e_Lok (ld_aload_n_0 (x_dk dn_352_0_2_ok 19 rfl)))
  (e_Lok (ld_aload_n_0 (x_dk dn_352_0_2_ok 20 rfl))))
  (e_Tok2
  (e_Lok (ps_bipush_58 (x_dk dn_352_0_2_ok 21 rfl)))
  (e_Tok2
  (e_Lok (lk_12_586 ho_352 (x_dk dn_352_0_2_ok 22 rfl)))
  (e_Lok (lk_12_555 ho_352 (x_dk dn_352_0_2_ok 23 rfl)))))))))
def te_352_74 : Nat → eE := (e_T 154 (e_T 138 (e_T 131 (e_T 129 (e_T 128 (e_L 128 (0, ei_load 0 2 129, 0, 0)) (e_L 129 (0, ei_push (0, 3) 130, 0, 0))) (e_T 130 (e_L 130 (0, ei_load 2 0 131, 0, 0)) (e_L 131 (0, ei_bin eF_mul 132, 0, 0)))) (e_T 133 (e_T 132 (e_L 132 (0, ei_push (0, 1) 133, 0, 0)) (e_L 133 (0, ei_bin eF_add 134, 0, 0))) (e_T 134 (e_L 134 (0, ei_putf eft elay 12 81 0 137, 0, 0)) (e_T 137 (e_L 137 (0, ei_load 0 2 138, 0, 0)) (e_L 138 (0, ei_getf eft elay 12 69 141, 0, 0)))))) (e_T 146 (e_T 142 (e_T 141 (e_L 141 (0, ei_load 3 0 142, 0, 0)) (e_L 142 (0, ei_load 0 2 143, 0, 0))) (e_T 143 (e_L 143 (0, ei_getf eft elay 12 78 146, 0, 0)) (e_L 146 (0, ei_ast elay false 147, 0, 0)))) (e_T 148 (e_T 147 (e_L 147 (0, ei_load 0 2 148, 0, 0)) (e_L 148 (2, e_nof, 348, 1))) (e_T 151 (e_L 151 (0, ei_load 0 2 152, 0, 0)) (e_T 152 (e_L 152 (0, ei_push (0, 50) 154, 0, 0)) (e_L 154 (0, ei_load 2 0 155, 0, 0))))))) (e_T 172 (e_T 160 (e_T 158 (e_T 155 (e_L 155 (2, e_nof, 336, 3)) (e_L 158 (0, ei_stk ef_pop 159, 0, 0))) (e_T 159 (e_L 159 (0, ei_load 0 2 160, 0, 0)) (e_L 160 (0, ei_getf eft elay 12 88 163, 0, 0)))) (e_T 166 (e_T 163 (e_L 163 (0, ei_if1 1 220 166, 0, 0)) (e_L 166 (0, ei_load 0 2 167, 0, 0))) (e_T 167 (e_L 167 (0, ei_push (0, 23) 169, 0, 0)) (e_T 169 (e_L 169 (2, e_nof, 332, 2)) (e_L 172 (0, ei_if1 0 220 175, 0, 0)))))) (e_T 181 (e_T 176 (e_T 175 (e_L 175 (0, ei_load 0 2 176, 0, 0)) (e_L 176 (2, e_nof, 327, 1))) (e_T 179 (e_L 179 (0, ei_load 0 2 180, 0, 0)) (e_T 180 (e_L 180 (0, ei_load 0 2 181, 0, 0)) (e_L 181 (0, ei_push (0, 58) 183, 0, 0))))) (e_T 186 (e_T 183 (e_L 183 (2, e_nof, 331, 2)) (e_L 186 (2, e_nof, 334, 2))) (e_T 189 (e_L 189 (0, ei_load 0 2 190, 0, 0)) (e_T 190 (e_L 190 (0, ei_push (0, 3) 191, 0, 0)) (e_L 191 (0, ei_load 2 0 192, 0, 0))))))))
set_option maxRecDepth 20000 in
set_option maxHeartbeats 4000000 in
theorem te_352_74_ok : ∀ pc, e_EOq eft cls elay eI n_352 pc (te_352_74 pc) :=
  (e_Tok2
  (e_Tok2
  (e_Tok2
  (e_Tok2
  (e_Tok2
  (e_Lok (ld_aload_n_0 (x_dk dn_352_0_2_ok 24 rfl)))
  (e_Lok (ps_iconst_3 (x_dk dn_352_0_3_ok 0 rfl))))
  (e_Tok2
  (e_Lok (ld_iload_n_2 (x_dk dn_352_0_3_ok 1 rfl)))
  (e_Lok (sm_imul (x_dk dn_352_0_3_ok 2 rfl)))))
  (e_Tok2
  (e_Tok2
  (e_Lok (ps_iconst_1 (x_dk dn_352_0_3_ok 3 rfl)))
  (e_Lok (sm_iadd (x_dk dn_352_0_3_ok 4 rfl))))
  (e_Tok2
  (e_Lok (lk_12_549p ho_352 (x_dk dn_352_0_3_ok 5 rfl)))
  (e_Tok2
  (e_Lok (ld_aload_n_0 (x_dk dn_352_0_3_ok 6 rfl)))
  (e_Lok (lk_12_183g ho_352 (x_dk dn_352_0_3_ok 7 rfl)))))))
  (e_Tok2
  (e_Tok2
  (e_Tok2
  (e_Lok (ld_iload_n_3 (x_dk dn_352_0_3_ok 8 rfl)))
  (e_Lok (ld_aload_n_0 (x_dk dn_352_0_3_ok 9 rfl))))
  (e_Tok2
  (e_Lok (lk_12_546g ho_352 (x_dk dn_352_0_3_ok 10 rfl)))
  (e_Lok (sm_iastore (x_dk dn_352_0_3_ok 11 rfl)))))
  (e_Tok2
  (e_Tok2
  (e_Lok (ld_aload_n_0 (x_dk dn_352_0_3_ok 12 rfl)))
  (e_Lok (lk_12_623 ho_352 (x_dk dn_352_0_3_ok 13 rfl))))
  (e_Tok2
  (e_Lok (ld_aload_n_0 (x_dk dn_352_0_3_ok 14 rfl)))
  (e_Tok2
  (e_Lok (ps_bipush_50 (x_dk dn_352_0_3_ok 15 rfl)))
  (e_Lok (ld_iload_n_2 (x_dk dn_352_0_3_ok 16 rfl))))))))
  (e_Tok2
  (e_Tok2
  (e_Tok2
  (e_Tok2
  (e_Lok (lk_12_565 ho_352 (x_dk dn_352_0_3_ok 17 rfl)))
  (e_Lok (e_st (I := eI) (er_pop (x_dk dn_352_0_3_ok 18 rfl)) (nx_stk bf_pop))))
  (e_Tok2
  (e_Lok (ld_aload_n_0 (x_dk dn_352_0_3_ok 19 rfl)))
  (e_Lok (lk_12_530g ho_352 (x_dk dn_352_0_3_ok 20 rfl)))))
  (e_Tok2
  (e_Tok2
  (e_Lok (e_st (I := eI) (er_ifne (off := 57) (tg := 220) (x_dk dn_352_0_3_ok 21 rfl) (by decide)) nx_if1))
  (e_Lok (ld_aload_n_0 (x_dk dn_352_0_3_ok 22 rfl))))
  (e_Tok2
  (e_Lok (ps_bipush_23 (x_dk dn_352_0_3_ok 23 rfl)))
  (e_Tok2
  (e_Lok (lk_12_562 ho_352 (x_dk dn_352_0_3_ok 24 rfl)))
  (e_Lok (e_st (I := eI) (er_ifeq (off := 48) (tg := 220) (x_dk dn_352_1_0_ok 0 rfl) (by decide)) nx_if1))))))
  (e_Tok2
  (e_Tok2
  (e_Tok2
  (e_Lok (ld_aload_n_0 (x_dk dn_352_1_0_ok 1 rfl)))
  (e_Lok (lk_12_536 ho_352 (x_dk dn_352_1_0_ok 2 rfl))))
  (e_Tok2
  (e_Lok (ld_aload_n_0 (x_dk dn_352_1_0_ok 3 rfl)))
  (e_Tok2
  (e_Lok (ld_aload_n_0 (x_dk dn_352_1_0_ok 4 rfl)))
  (e_Lok (ps_bipush_58 (x_dk dn_352_1_0_ok 5 rfl))))))
  (e_Tok2
  (e_Tok2
  (e_Lok (lk_12_586 ho_352 (x_dk dn_352_1_0_ok 6 rfl)))
  (e_Lok (lk_12_555 ho_352 (x_dk dn_352_1_0_ok 7 rfl))))
  (e_Tok2
  (e_Lok (ld_aload_n_0 (x_dk dn_352_1_0_ok 8 rfl)))
  (e_Tok2
  (e_Lok (ps_iconst_3 (x_dk dn_352_1_0_ok 9 rfl)))
  (e_Lok (ld_iload_n_2 (x_dk dn_352_1_0_ok 10 rfl)))))))))
def te_352_111 : Nat → eE := (e_T 221 (e_T 204 (e_T 195 (e_T 193 (e_T 192 (e_L 192 (0, ei_bin eF_mul 193, 0, 0)) (e_L 193 (0, ei_push (0, 2) 194, 0, 0))) (e_T 194 (e_L 194 (0, ei_bin eF_add 195, 0, 0)) (e_L 195 (0, ei_putf eft elay 12 81 0 198, 0, 0)))) (e_T 199 (e_T 198 (e_L 198 (0, ei_load 0 2 199, 0, 0)) (e_L 199 (0, ei_getf eft elay 12 70 202, 0, 0))) (e_T 202 (e_L 202 (0, ei_load 3 0 203, 0, 0)) (e_T 203 (e_L 203 (0, ei_load 0 2 204, 0, 0)) (e_L 204 (0, ei_getf eft elay 12 78 207, 0, 0)))))) (e_T 213 (e_T 208 (e_T 207 (e_L 207 (0, ei_ast elay false 208, 0, 0)) (e_L 208 (0, ei_load 0 2 209, 0, 0))) (e_T 209 (e_L 209 (2, e_nof, 348, 1)) (e_T 212 (e_L 212 (0, ei_load 0 2 213, 0, 0)) (e_L 213 (0, ei_push (0, 51) 215, 0, 0))))) (e_T 216 (e_T 215 (e_L 215 (0, ei_load 2 0 216, 0, 0)) (e_L 216 (2, e_nof, 336, 3))) (e_T 219 (e_L 219 (0, ei_stk ef_pop 220, 0, 0)) (e_T 220 (e_L 220 (0, ei_load 0 2 221, 0, 0)) (e_L 221 (0, ei_load 1 0 222, 0, 0))))))) (e_T 236 (e_T 229 (e_T 225 (e_T 222 (e_L 222 (0, ei_putf eft elay 12 81 0 225, 0, 0)) (e_L 225 (0, ei_load 0 2 226, 0, 0))) (e_T 226 (e_L 226 (0, ei_getf eft elay 12 71 229, 0, 0)) (e_L 229 (0, ei_load 3 0 230, 0, 0)))) (e_T 231 (e_T 230 (e_L 230 (0, ei_load 0 2 231, 0, 0)) (e_L 231 (0, ei_getf eft elay 12 78 234, 0, 0))) (e_T 234 (e_L 234 (0, ei_ast elay false 235, 0, 0)) (e_T 235 (e_L 235 (0, ei_load 0 2 236, 0, 0)) (e_L 236 (0, ei_load 0 2 237, 0, 0)))))) (e_T 245 (e_T 238 (e_T 237 (e_L 237 (0, ei_push (0, 2) 238, 0, 0)) (e_L 238 (2, e_nof, 332, 2))) (e_T 241 (e_L 241 (2, e_nof, 334, 2)) (e_T 244 (e_L 244 (0, ei_load 0 2 245, 0, 0)) (e_L 245 (0, ei_stk ef_dup 246, 0, 0))))) (e_T 249 (e_T 246 (e_L 246 (0, ei_getf eft elay 12 83 249, 0, 0)) (e_L 249 (0, ei_push (0, 1) 250, 0, 0))) (e_T 250 (e_L 250 (0, ei_bin eF_sub 251, 0, 0)) (e_T 251 (e_L 251 (0, ei_putf eft elay 12 83 0 254, 0, 0)) (e_L 254 (1, e_nof, 0, 0))))))))
set_option maxRecDepth 20000 in
set_option maxHeartbeats 4000000 in
theorem te_352_111_ok : ∀ pc, e_EOq eft cls elay eI n_352 pc (te_352_111 pc) :=
  (e_Tok2
  (e_Tok2
  (e_Tok2
  (e_Tok2
  (e_Tok2
  (e_Lok (sm_imul (x_dk dn_352_1_0_ok 11 rfl)))
  (e_Lok (ps_iconst_2 (x_dk dn_352_1_0_ok 12 rfl))))
  (e_Tok2
  (e_Lok (sm_iadd (x_dk dn_352_1_0_ok 13 rfl)))
  (e_Lok (lk_12_549p ho_352 (x_dk dn_352_1_0_ok 14 rfl)))))
  (e_Tok2
  (e_Tok2
  (e_Lok (ld_aload_n_0 (x_dk dn_352_1_0_ok 15 rfl)))
  (e_Lok (lk_12_186g ho_352 (x_dk dn_352_1_0_ok 16 rfl))))
  (e_Tok2
  (e_Lok (ld_iload_n_3 (x_dk dn_352_1_0_ok 17 rfl)))
  (e_Tok2
  (e_Lok (ld_aload_n_0 (x_dk dn_352_1_0_ok 18 rfl)))
  (e_Lok (lk_12_546g ho_352 (x_dk dn_352_1_0_ok 19 rfl)))))))
  (e_Tok2
  (e_Tok2
  (e_Tok2
  (e_Lok (sm_iastore (x_dk dn_352_1_0_ok 20 rfl)))
  (e_Lok (ld_aload_n_0 (x_dk dn_352_1_0_ok 21 rfl))))
  (e_Tok2
  (e_Lok (lk_12_623 ho_352 (x_dk dn_352_1_0_ok 22 rfl)))
  (e_Tok2
  (e_Lok (ld_aload_n_0 (x_dk dn_352_1_0_ok 23 rfl)))
  (e_Lok (ps_bipush_51 (x_dk dn_352_1_0_ok 24 rfl))))))
  (e_Tok2
  (e_Tok2
  (e_Lok (ld_iload_n_2 (x_dk dn_352_1_1_ok 0 rfl)))
  (e_Lok (lk_12_565 ho_352 (x_dk dn_352_1_1_ok 1 rfl))))
  (e_Tok2
  (e_Lok (e_st (I := eI) (er_pop (x_dk dn_352_1_1_ok 2 rfl)) (nx_stk bf_pop)))
  (e_Tok2
  (e_Lok (ld_aload_n_0 (x_dk dn_352_1_1_ok 3 rfl)))
  (e_Lok (ld_iload_n_1 (x_dk dn_352_1_1_ok 4 rfl))))))))
  (e_Tok2
  (e_Tok2
  (e_Tok2
  (e_Tok2
  (e_Lok (lk_12_549p ho_352 (x_dk dn_352_1_1_ok 5 rfl)))
  (e_Lok (ld_aload_n_0 (x_dk dn_352_1_1_ok 6 rfl))))
  (e_Tok2
  (e_Lok (lk_12_189g ho_352 (x_dk dn_352_1_1_ok 7 rfl)))
  (e_Lok (ld_iload_n_3 (x_dk dn_352_1_1_ok 8 rfl)))))
  (e_Tok2
  (e_Tok2
  (e_Lok (ld_aload_n_0 (x_dk dn_352_1_1_ok 9 rfl)))
  (e_Lok (lk_12_546g ho_352 (x_dk dn_352_1_1_ok 10 rfl))))
  (e_Tok2
  (e_Lok (sm_iastore (x_dk dn_352_1_1_ok 11 rfl)))
  (e_Tok2
  (e_Lok (ld_aload_n_0 (x_dk dn_352_1_1_ok 12 rfl)))
  (e_Lok (ld_aload_n_0 (x_dk dn_352_1_1_ok 13 rfl)))))))
  (e_Tok2
  (e_Tok2
  (e_Tok2
  (e_Lok (ps_iconst_2 (x_dk dn_352_1_1_ok 14 rfl)))
  (e_Lok (lk_12_562 ho_352 (x_dk dn_352_1_1_ok 15 rfl))))
  (e_Tok2
  (e_Lok (lk_12_555 ho_352 (x_dk dn_352_1_1_ok 16 rfl)))
  (e_Tok2
  (e_Lok (ld_aload_n_0 (x_dk dn_352_1_1_ok 17 rfl)))
  (e_Lok (e_st (I := eI) (er_dup (x_dk dn_352_1_1_ok 18 rfl)) (nx_stk bf_dup))))))
  (e_Tok2
  (e_Tok2
  (e_Lok (lk_12_542g ho_352 (x_dk dn_352_1_1_ok 19 rfl)))
  (e_Lok (ps_iconst_1 (x_dk dn_352_1_1_ok 20 rfl))))
  (e_Tok2
  (e_Lok (sm_isub (x_dk dn_352_1_1_ok 21 rfl)))
  (e_Tok2
  (e_Lok (lk_12_542p ho_352 (x_dk dn_352_1_1_ok 22 rfl)))
  (e_Lok (e_rt (I := eI) (k := 0) ⟨(x_dk dn_352_1_1_ok 23 rfl), rfl⟩))))))))
def te_352 : Nat → eE := (e_T 125 (e_T 57 te_352_0 te_352_37) (e_T 191 te_352_74 te_352_111))
theorem te_352_ok : ∀ pc, e_EOq eft cls elay eI n_352 pc (te_352 pc) := (e_Tok2 ((e_Tok2 (te_352_0_ok) (te_352_37_ok))) ((e_Tok2 (te_352_74_ok) (te_352_111_ok))))
theorem ho_353 : (xm_y n_353).cls = "RobotCellHouseModel" := rfl
def dn_353_0_0 : List (Nat × Instr × Nat) := [(0, .aload_n 0, 1), (1, .getfield 530, 3), (4, .ifCond .ne 63, 3), (7, .aload_n 0, 1), (8, .iconst 0, 1), (9, .invokevirtual 562, 3), (12, .ifCond .eq 55, 3), (15, .aload_n 0, 1), (16, .invokevirtual 536, 3), (19, .aload_n 0, 1), (20, .iconst 0, 1), (21, .iconst 0, 1), (22, .invokevirtual 595, 3), (25, .aload_n 0, 1), (26, .getfield 530, 3), (29, .ifCond .ne 25, 3), (32, .aload_n 0, 1), (33, .bipush 44, 2), (35, .invokevirtual 586, 3), (38, .ifCond .eq 16, 3), (41, .aload_n 0, 1), (42, .invokevirtual 536, 3), (45, .aload_n 0, 1), (46, .iconst 0, 1), (47, .iconst 0, 1)]
set_option maxRecDepth 20000 in
theorem dn_353_0_0_ok : dn_353_0_0.all (fun q => decide (decode (xm_b n_353) q.1 = .ok (q.2.1, q.2.2))) = true := xa_g_ok (by decide +kernel)
def dn_353_0_1 : List (Nat × Instr × Nat) := [(48, .invokevirtual 595, 3), (51, .goto (-26), 3), (54, .aload_n 0, 1), (55, .aload_n 0, 1), (56, .bipush 59, 2), (58, .invokevirtual 586, 3), (61, .invokevirtual 555, 3), (64, .goto (-64), 3), (67, .aload_n 0, 1), (68, .getfield 530, 3), (71, .ifCond .ne 58, 3), (74, .aload_n 0, 1), (75, .iconst 1, 1), (76, .invokevirtual 562, 3), (79, .ifCond .eq 50, 3), (82, .aload_n 0, 1), (83, .invokevirtual 536, 3), (86, .aload_n 0, 1), (87, .iconst 1, 1), (88, .aload_n 0, 1), (89, .getfield 546, 3), (92, .invokevirtual 595, 3), (95, .aload_n 0, 1), (96, .aload_n 0, 1), (97, .bipush 58, 2)]
set_option maxRecDepth 20000 in
theorem dn_353_0_1_ok : dn_353_0_1.all (fun q => decide (decode (xm_b n_353) q.1 = .ok (q.2.1, q.2.2))) = true := xa_g_ok (by decide +kernel)
def dn_353_0_2 : List (Nat × Instr × Nat) := [(99, .invokevirtual 586, 3), (102, .invokevirtual 555, 3), (105, .aload_n 0, 1), (106, .invokevirtual 623, 3), (109, .aload_n 0, 1), (110, .aload_n 0, 1), (111, .iconst 2, 1), (112, .invokevirtual 562, 3), (115, .invokevirtual 555, 3), (118, .aload_n 0, 1), (119, .bipush 45, 2), (121, .iconst 0, 1), (122, .invokevirtual 565, 3), (125, .pop, 1), (126, .goto (-59), 3), (129, .aload_n 0, 1), (130, .aload_n 0, 1), (131, .getfield 497, 3), (134, .ifCond .ne 7, 3), (137, .iconst 1, 1), (138, .goto 4, 3), (141, .iconst 0, 1), (142, .invokevirtual 555, 3), (145, .return_, 1)]
set_option maxRecDepth 20000 in
theorem dn_353_0_2_ok : dn_353_0_2.all (fun q => decide (decode (xm_b n_353) q.1 = .ok (q.2.1, q.2.2))) = true := xa_g_ok (by decide +kernel)
def te_353_0 : Nat → eE := (e_T 33 (e_T 16 (e_T 7 (e_T 1 (e_T 0 (e_L 0 (0, ei_load 0 2 1, 0, 0)) (e_L 1 (0, ei_getf eft elay 12 88 4, 0, 0))) (e_T 4 (e_L 4 (0, ei_if1 1 67 7, 0, 0)) (e_L 7 (0, ei_load 0 2 8, 0, 0)))) (e_T 9 (e_T 8 (e_L 8 (0, ei_push (0, 0) 9, 0, 0)) (e_L 9 (2, e_nof, 332, 2))) (e_T 12 (e_L 12 (0, ei_if1 0 67 15, 0, 0)) (e_T 15 (e_L 15 (0, ei_load 0 2 16, 0, 0)) (e_L 16 (2, e_nof, 327, 1)))))) (e_T 22 (e_T 20 (e_T 19 (e_L 19 (0, ei_load 0 2 20, 0, 0)) (e_L 20 (0, ei_push (0, 0) 21, 0, 0))) (e_T 21 (e_L 21 (0, ei_push (0, 0) 22, 0, 0)) (e_L 22 (2, e_nof, 338, 3)))) (e_T 26 (e_T 25 (e_L 25 (0, ei_load 0 2 26, 0, 0)) (e_L 26 (0, ei_getf eft elay 12 88 29, 0, 0))) (e_T 29 (e_L 29 (0, ei_if1 1 54 32, 0, 0)) (e_T 32 (e_L 32 (0, ei_load 0 2 33, 0, 0)) (e_L 33 (0, ei_push (0, 44) 35, 0, 0))))))) (e_T 51 (e_T 42 (e_T 38 (e_T 35 (e_L 35 (2, e_nof, 331, 2)) (e_L 38 (0, ei_if1 0 54 41, 0, 0))) (e_T 41 (e_L 41 (0, ei_load 0 2 42, 0, 0)) (e_L 42 (2, e_nof, 327, 1)))) (e_T 46 (e_T 45 (e_L 45 (0, ei_load 0 2 46, 0, 0)) (e_L 46 (0, ei_push (0, 0) 47, 0, 0))) (e_T 47 (e_L 47 (0, ei_push (0, 0) 48, 0, 0)) (e_T 48 (e_L 48 (2, e_nof, 338, 3)) (e_L 51 (0, ei_goto 25, 0, 0)))))) (e_T 61 (e_T 55 (e_T 54 (e_L 54 (0, ei_load 0 2 55, 0, 0)) (e_L 55 (0, ei_load 0 2 56, 0, 0))) (e_T 56 (e_L 56 (0, ei_push (0, 59) 58, 0, 0)) (e_T 58 (e_L 58 (2, e_nof, 331, 2)) (e_L 61 (2, e_nof, 334, 2))))) (e_T 67 (e_T 64 (e_L 64 (0, ei_goto 0, 0, 0)) (e_L 67 (0, ei_load 0 2 68, 0, 0))) (e_T 68 (e_L 68 (0, ei_getf eft elay 12 88 71, 0, 0)) (e_T 71 (e_L 71 (0, ei_if1 1 129 74, 0, 0)) (e_L 74 (0, ei_load 0 2 75, 0, 0))))))))
set_option maxRecDepth 20000 in
set_option maxHeartbeats 4000000 in
theorem te_353_0_ok : ∀ pc, e_EOq eft cls elay eI n_353 pc (te_353_0 pc) :=
  (e_Tok2
  (e_Tok2
  (e_Tok2
  (e_Tok2
  (e_Tok2
  (e_Lok (ld_aload_n_0 (x_dk dn_353_0_0_ok 0 rfl)))
  (e_Lok (lk_12_530g ho_353 (x_dk dn_353_0_0_ok 1 rfl))))
  (e_Tok2
  (e_Lok (e_st (I := eI) (er_ifne (off := 63) (tg := 67) (x_dk dn_353_0_0_ok 2 rfl) (by decide)) nx_if1))
  (e_Lok (ld_aload_n_0 (x_dk dn_353_0_0_ok 3 rfl)))))
  (e_Tok2
  (e_Tok2
  (e_Lok (ps_iconst_0 (x_dk dn_353_0_0_ok 4 rfl)))
  (e_Lok (lk_12_562 ho_353 (x_dk dn_353_0_0_ok 5 rfl))))
  (e_Tok2
  (e_Lok (e_st (I := eI) (er_ifeq (off := 55) (tg := 67) (x_dk dn_353_0_0_ok 6 rfl) (by decide)) nx_if1))
  (e_Tok2
  (e_Lok (ld_aload_n_0 (x_dk dn_353_0_0_ok 7 rfl)))
  (e_Lok (lk_12_536 ho_353 (x_dk dn_353_0_0_ok 8 rfl)))))))
  (e_Tok2
  (e_Tok2
  (e_Tok2
  (e_Lok (ld_aload_n_0 (x_dk dn_353_0_0_ok 9 rfl)))
  (e_Lok (ps_iconst_0 (x_dk dn_353_0_0_ok 10 rfl))))
  (e_Tok2
  (e_Lok (ps_iconst_0 (x_dk dn_353_0_0_ok 11 rfl)))
  (e_Lok (lk_12_595 ho_353 (x_dk dn_353_0_0_ok 12 rfl)))))
  (e_Tok2
  (e_Tok2
  (e_Lok (ld_aload_n_0 (x_dk dn_353_0_0_ok 13 rfl)))
  (e_Lok (lk_12_530g ho_353 (x_dk dn_353_0_0_ok 14 rfl))))
  (e_Tok2
  (e_Lok (e_st (I := eI) (er_ifne (off := 25) (tg := 54) (x_dk dn_353_0_0_ok 15 rfl) (by decide)) nx_if1))
  (e_Tok2
  (e_Lok (ld_aload_n_0 (x_dk dn_353_0_0_ok 16 rfl)))
  (e_Lok (ps_bipush_44 (x_dk dn_353_0_0_ok 17 rfl))))))))
  (e_Tok2
  (e_Tok2
  (e_Tok2
  (e_Tok2
  (e_Lok (lk_12_586 ho_353 (x_dk dn_353_0_0_ok 18 rfl)))
  (e_Lok (e_st (I := eI) (er_ifeq (off := 16) (tg := 54) (x_dk dn_353_0_0_ok 19 rfl) (by decide)) nx_if1)))
  (e_Tok2
  (e_Lok (ld_aload_n_0 (x_dk dn_353_0_0_ok 20 rfl)))
  (e_Lok (lk_12_536 ho_353 (x_dk dn_353_0_0_ok 21 rfl)))))
  (e_Tok2
  (e_Tok2
  (e_Lok (ld_aload_n_0 (x_dk dn_353_0_0_ok 22 rfl)))
  (e_Lok (ps_iconst_0 (x_dk dn_353_0_0_ok 23 rfl))))
  (e_Tok2
  (e_Lok (ps_iconst_0 (x_dk dn_353_0_0_ok 24 rfl)))
  (e_Tok2
  (e_Lok (lk_12_595 ho_353 (x_dk dn_353_0_1_ok 0 rfl)))
  (e_Lok (e_st (I := eI) (er_goto (off := (-26)) (tg := 25) (x_dk dn_353_0_1_ok 1 rfl) (by decide)) nx_goto))))))
  (e_Tok2
  (e_Tok2
  (e_Tok2
  (e_Lok (ld_aload_n_0 (x_dk dn_353_0_1_ok 2 rfl)))
  (e_Lok (ld_aload_n_0 (x_dk dn_353_0_1_ok 3 rfl))))
  (e_Tok2
  (e_Lok (ps_bipush_59 (x_dk dn_353_0_1_ok 4 rfl)))
  (e_Tok2
  (e_Lok (lk_12_586 ho_353 (x_dk dn_353_0_1_ok 5 rfl)))
  (e_Lok (lk_12_555 ho_353 (x_dk dn_353_0_1_ok 6 rfl))))))
  (e_Tok2
  (e_Tok2
  (e_Lok (e_st (I := eI) (er_goto (off := (-64)) (tg := 0) (x_dk dn_353_0_1_ok 7 rfl) (by decide)) nx_goto))
  (e_Lok (ld_aload_n_0 (x_dk dn_353_0_1_ok 8 rfl))))
  (e_Tok2
  (e_Lok (lk_12_530g ho_353 (x_dk dn_353_0_1_ok 9 rfl)))
  (e_Tok2
  (e_Lok (e_st (I := eI) (er_ifne (off := 58) (tg := 129) (x_dk dn_353_0_1_ok 10 rfl) (by decide)) nx_if1))
  (e_Lok (ld_aload_n_0 (x_dk dn_353_0_1_ok 11 rfl)))))))))
def te_353_37 : Nat → eE := (e_T 109 (e_T 89 (e_T 82 (e_T 76 (e_T 75 (e_L 75 (0, ei_push (0, 1) 76, 0, 0)) (e_L 76 (2, e_nof, 332, 2))) (e_T 79 (e_L 79 (0, ei_if1 0 129 82, 0, 0)) (e_L 82 (0, ei_load 0 2 83, 0, 0)))) (e_T 86 (e_T 83 (e_L 83 (2, e_nof, 327, 1)) (e_L 86 (0, ei_load 0 2 87, 0, 0))) (e_T 87 (e_L 87 (0, ei_push (0, 1) 88, 0, 0)) (e_T 88 (e_L 88 (0, ei_load 0 2 89, 0, 0)) (e_L 89 (0, ei_getf eft elay 12 78 92, 0, 0)))))) (e_T 97 (e_T 95 (e_T 92 (e_L 92 (2, e_nof, 338, 3)) (e_L 95 (0, ei_load 0 2 96, 0, 0))) (e_T 96 (e_L 96 (0, ei_load 0 2 97, 0, 0)) (e_L 97 (0, ei_push (0, 58) 99, 0, 0)))) (e_T 102 (e_T 99 (e_L 99 (2, e_nof, 331, 2)) (e_L 102 (2, e_nof, 334, 2))) (e_T 105 (e_L 105 (0, ei_load 0 2 106, 0, 0)) (e_T 106 (e_L 106 (2, e_nof, 348, 1)) (e_L 109 (0, ei_load 0 2 110, 0, 0))))))) (e_T 125 (e_T 115 (e_T 111 (e_T 110 (e_L 110 (0, ei_load 0 2 111, 0, 0)) (e_L 111 (0, ei_push (0, 2) 112, 0, 0))) (e_T 112 (e_L 112 (2, e_nof, 332, 2)) (e_L 115 (2, e_nof, 334, 2)))) (e_T 119 (e_T 118 (e_L 118 (0, ei_load 0 2 119, 0, 0)) (e_L 119 (0, ei_push (0, 45) 121, 0, 0))) (e_T 121 (e_L 121 (0, ei_push (0, 0) 122, 0, 0)) (e_T 122 (e_L 122 (2, e_nof, 336, 3)) (e_L 125 (0, ei_stk ef_pop 126, 0, 0)))))) (e_T 134 (e_T 129 (e_T 126 (e_L 126 (0, ei_goto 67, 0, 0)) (e_L 129 (0, ei_load 0 2 130, 0, 0))) (e_T 130 (e_L 130 (0, ei_load 0 2 131, 0, 0)) (e_T 131 (e_L 131 (0, ei_getf eft elay 12 84 134, 0, 0)) (e_L 134 (0, ei_if1 1 141 137, 0, 0))))) (e_T 138 (e_T 137 (e_L 137 (0, ei_push (0, 1) 138, 0, 0)) (e_L 138 (0, ei_goto 142, 0, 0))) (e_T 141 (e_L 141 (0, ei_push (0, 0) 142, 0, 0)) (e_T 142 (e_L 142 (2, e_nof, 334, 2)) (e_L 145 (1, e_nof, 0, 0))))))))
set_option maxRecDepth 20000 in
set_option maxHeartbeats 4000000 in
theorem te_353_37_ok : ∀ pc, e_EOq eft cls elay eI n_353 pc (te_353_37 pc) :=
  (e_Tok2
  (e_Tok2
  (e_Tok2
  (e_Tok2
  (e_Tok2
  (e_Lok (ps_iconst_1 (x_dk dn_353_0_1_ok 12 rfl)))
  (e_Lok (lk_12_562 ho_353 (x_dk dn_353_0_1_ok 13 rfl))))
  (e_Tok2
  (e_Lok (e_st (I := eI) (er_ifeq (off := 50) (tg := 129) (x_dk dn_353_0_1_ok 14 rfl) (by decide)) nx_if1))
  (e_Lok (ld_aload_n_0 (x_dk dn_353_0_1_ok 15 rfl)))))
  (e_Tok2
  (e_Tok2
  (e_Lok (lk_12_536 ho_353 (x_dk dn_353_0_1_ok 16 rfl)))
  (e_Lok (ld_aload_n_0 (x_dk dn_353_0_1_ok 17 rfl))))
  (e_Tok2
  (e_Lok (ps_iconst_1 (x_dk dn_353_0_1_ok 18 rfl)))
  (e_Tok2
  (e_Lok (ld_aload_n_0 (x_dk dn_353_0_1_ok 19 rfl)))
  (e_Lok (lk_12_546g ho_353 (x_dk dn_353_0_1_ok 20 rfl)))))))
  (e_Tok2
  (e_Tok2
  (e_Tok2
  (e_Lok (lk_12_595 ho_353 (x_dk dn_353_0_1_ok 21 rfl)))
  (e_Lok (ld_aload_n_0 (x_dk dn_353_0_1_ok 22 rfl))))
  (e_Tok2
  (e_Lok (ld_aload_n_0 (x_dk dn_353_0_1_ok 23 rfl)))
  (e_Lok (ps_bipush_58 (x_dk dn_353_0_1_ok 24 rfl)))))
  (e_Tok2
  (e_Tok2
  (e_Lok (lk_12_586 ho_353 (x_dk dn_353_0_2_ok 0 rfl)))
  (e_Lok (lk_12_555 ho_353 (x_dk dn_353_0_2_ok 1 rfl))))
  (e_Tok2
  (e_Lok (ld_aload_n_0 (x_dk dn_353_0_2_ok 2 rfl)))
  (e_Tok2
  (e_Lok (lk_12_623 ho_353 (x_dk dn_353_0_2_ok 3 rfl)))
  (e_Lok (ld_aload_n_0 (x_dk dn_353_0_2_ok 4 rfl))))))))
  (e_Tok2
  (e_Tok2
  (e_Tok2
  (e_Tok2
  (e_Lok (ld_aload_n_0 (x_dk dn_353_0_2_ok 5 rfl)))
  (e_Lok (ps_iconst_2 (x_dk dn_353_0_2_ok 6 rfl))))
  (e_Tok2
  (e_Lok (lk_12_562 ho_353 (x_dk dn_353_0_2_ok 7 rfl)))
  (e_Lok (lk_12_555 ho_353 (x_dk dn_353_0_2_ok 8 rfl)))))
  (e_Tok2
  (e_Tok2
  (e_Lok (ld_aload_n_0 (x_dk dn_353_0_2_ok 9 rfl)))
  (e_Lok (ps_bipush_45 (x_dk dn_353_0_2_ok 10 rfl))))
  (e_Tok2
  (e_Lok (ps_iconst_0 (x_dk dn_353_0_2_ok 11 rfl)))
  (e_Tok2
  (e_Lok (lk_12_565 ho_353 (x_dk dn_353_0_2_ok 12 rfl)))
  (e_Lok (e_st (I := eI) (er_pop (x_dk dn_353_0_2_ok 13 rfl)) (nx_stk bf_pop)))))))
  (e_Tok2
  (e_Tok2
  (e_Tok2
  (e_Lok (e_st (I := eI) (er_goto (off := (-59)) (tg := 67) (x_dk dn_353_0_2_ok 14 rfl) (by decide)) nx_goto))
  (e_Lok (ld_aload_n_0 (x_dk dn_353_0_2_ok 15 rfl))))
  (e_Tok2
  (e_Lok (ld_aload_n_0 (x_dk dn_353_0_2_ok 16 rfl)))
  (e_Tok2
  (e_Lok (lk_12_497g ho_353 (x_dk dn_353_0_2_ok 17 rfl)))
  (e_Lok (e_st (I := eI) (er_ifne (off := 7) (tg := 141) (x_dk dn_353_0_2_ok 18 rfl) (by decide)) nx_if1)))))
  (e_Tok2
  (e_Tok2
  (e_Lok (ps_iconst_1 (x_dk dn_353_0_2_ok 19 rfl)))
  (e_Lok (e_st (I := eI) (er_goto (off := 4) (tg := 142) (x_dk dn_353_0_2_ok 20 rfl) (by decide)) nx_goto)))
  (e_Tok2
  (e_Lok (ps_iconst_0 (x_dk dn_353_0_2_ok 21 rfl)))
  (e_Tok2
  (e_Lok (lk_12_555 ho_353 (x_dk dn_353_0_2_ok 22 rfl)))
  (e_Lok (e_rt (I := eI) (k := 0) ⟨(x_dk dn_353_0_2_ok 23 rfl), rfl⟩))))))))
def te_353 : Nat → eE := (e_T 74 te_353_0 te_353_37)
theorem te_353_ok : ∀ pc, e_EOq eft cls elay eI n_353 pc (te_353 pc) := (e_Tok2 (te_353_0_ok) (te_353_37_ok))
theorem ho_354 : (xm_y n_354).cls = "RobotCellHouseModel" := rfl
def dn_354_0_0 : List (Nat × Instr × Nat) := [(0, .aload_n 0, 1), (1, .getfield 216, 3), (4, .iload_n 1, 1), (5, .iaload, 1), (6, .aload_n 0, 1), (7, .getfield 216, 3), (10, .iload_n 2, 1), (11, .iaload, 1), (12, .if_icmp .ne 7, 3), (15, .iconst 1, 1), (16, .goto 4, 3), (19, .iconst 0, 1), (20, .istore_n 3, 1), (21, .iconst 0, 1), (22, .istore 4, 2), (24, .iload 4, 2), (26, .aload_n 0, 1), (27, .getfield 216, 3), (30, .iload_n 1, 1), (31, .iaload, 1), (32, .if_icmp .ge 50, 3), (35, .iload_n 3, 1), (36, .ifCond .eq 46, 3), (39, .aload_n 0, 1), (40, .getfield 27, 3)]
set_option maxRecDepth 20000 in
theorem dn_354_0_0_ok : dn_354_0_0.all (fun q => decide (decode (xm_b n_354) q.1 = .ok (q.2.1, q.2.2))) = true := xa_g_ok (by decide +kernel)
def dn_354_0_1 : List (Nat × Instr × Nat) := [(43, .aload_n 0, 1), (44, .getfield 213, 3), (47, .iload_n 1, 1), (48, .iaload, 1), (49, .iload 4, 2), (51, .iadd, 1), (52, .baload, 1), (53, .aload_n 0, 1), (54, .getfield 27, 3), (57, .aload_n 0, 1), (58, .getfield 213, 3), (61, .iload_n 2, 1), (62, .iaload, 1), (63, .iload 4, 2), (65, .iadd, 1), (66, .baload, 1), (67, .if_icmp .ne 7, 3), (70, .iconst 1, 1), (71, .goto 4, 3), (74, .iconst 0, 1), (75, .istore_n 3, 1), (76, .iinc 4 1, 3), (79, .goto (-55), 3), (82, .iload_n 3, 1), (83, .ireturn, 1)]
set_option maxRecDepth 20000 in
theorem dn_354_0_1_ok : dn_354_0_1.all (fun q => decide (decode (xm_b n_354) q.1 = .ok (q.2.1, q.2.2))) = true := xa_g_ok (by decide +kernel)
def te_354_0 : Nat → eE := (e_T 19 (e_T 7 (e_T 4 (e_T 0 (e_L 0 (0, ei_load 0 2 1, 0, 0)) (e_T 1 (e_L 1 (0, ei_getf eft elay 12 92 4, 0, 0)) (e_L 4 (0, ei_load 1 0 5, 0, 0)))) (e_T 5 (e_L 5 (0, ei_ald elay false 6, 0, 0)) (e_T 6 (e_L 6 (0, ei_load 0 2 7, 0, 0)) (e_L 7 (0, ei_getf eft elay 12 92 10, 0, 0))))) (e_T 12 (e_T 10 (e_L 10 (0, ei_load 2 0 11, 0, 0)) (e_T 11 (e_L 11 (0, ei_ald elay false 12, 0, 0)) (e_L 12 (0, ei_if2 1 19 15, 0, 0)))) (e_T 15 (e_L 15 (0, ei_push (0, 1) 16, 0, 0)) (e_T 16 (e_L 16 (0, ei_goto 20, 0, 0)) (e_L 19 (0, ei_push (0, 0) 20, 0, 0)))))) (e_T 27 (e_T 22 (e_T 20 (e_L 20 (0, ei_stor 3 0 21, 0, 0)) (e_T 21 (e_L 21 (0, ei_push (0, 0) 22, 0, 0)) (e_L 22 (0, ei_stor 4 0 24, 0, 0)))) (e_T 24 (e_L 24 (0, ei_load 4 0 26, 0, 0)) (e_T 26 (e_L 26 (0, ei_load 0 2 27, 0, 0)) (e_L 27 (0, ei_getf eft elay 12 92 30, 0, 0))))) (e_T 32 (e_T 30 (e_L 30 (0, ei_load 1 0 31, 0, 0)) (e_T 31 (e_L 31 (0, ei_ald elay false 32, 0, 0)) (e_L 32 (0, ei_if2 3 82 35, 0, 0)))) (e_T 36 (e_T 35 (e_L 35 (0, ei_load 3 0 36, 0, 0)) (e_L 36 (0, ei_if1 0 82 39, 0, 0))) (e_T 39 (e_L 39 (0, ei_load 0 2 40, 0, 0)) (e_L 40 (0, ei_getf eft elay 12 8 43, 0, 0)))))))
set_option maxRecDepth 20000 in
set_option maxHeartbeats 4000000 in
theorem te_354_0_ok : ∀ pc, e_EOq eft cls elay eI n_354 pc (te_354_0 pc) :=
  (e_Tok2
  (e_Tok2
  (e_Tok2
  (e_Tok2
  (e_Lok (ld_aload_n_0 (x_dk dn_354_0_0_ok 0 rfl)))
  (e_Tok2
  (e_Lok (lk_12_216g ho_354 (x_dk dn_354_0_0_ok 1 rfl)))
  (e_Lok (ld_iload_n_1 (x_dk dn_354_0_0_ok 2 rfl)))))
  (e_Tok2
  (e_Lok (sm_iaload (x_dk dn_354_0_0_ok 3 rfl)))
  (e_Tok2
  (e_Lok (ld_aload_n_0 (x_dk dn_354_0_0_ok 4 rfl)))
  (e_Lok (lk_12_216g ho_354 (x_dk dn_354_0_0_ok 5 rfl))))))
  (e_Tok2
  (e_Tok2
  (e_Lok (ld_iload_n_2 (x_dk dn_354_0_0_ok 6 rfl)))
  (e_Tok2
  (e_Lok (sm_iaload (x_dk dn_354_0_0_ok 7 rfl)))
  (e_Lok (e_st (I := eI) (er_icmpne (off := 7) (tg := 19) (x_dk dn_354_0_0_ok 8 rfl) (by decide)) nx_if2))))
  (e_Tok2
  (e_Lok (ps_iconst_1 (x_dk dn_354_0_0_ok 9 rfl)))
  (e_Tok2
  (e_Lok (e_st (I := eI) (er_goto (off := 4) (tg := 20) (x_dk dn_354_0_0_ok 10 rfl) (by decide)) nx_goto))
  (e_Lok (ps_iconst_0 (x_dk dn_354_0_0_ok 11 rfl)))))))
  (e_Tok2
  (e_Tok2
  (e_Tok2
  (e_Lok (e_st (I := eI) (er_istore_n (i := 3) (x_dk dn_354_0_0_ok 12 rfl) (by decide +kernel)) nx_stor))
  (e_Tok2
  (e_Lok (ps_iconst_0 (x_dk dn_354_0_0_ok 13 rfl)))
  (e_Lok (e_st (I := eI) (er_istore (i := 4) (x_dk dn_354_0_0_ok 14 rfl) (by decide +kernel)) nx_stor))))
  (e_Tok2
  (e_Lok (ld_iload_4 (x_dk dn_354_0_0_ok 15 rfl)))
  (e_Tok2
  (e_Lok (ld_aload_n_0 (x_dk dn_354_0_0_ok 16 rfl)))
  (e_Lok (lk_12_216g ho_354 (x_dk dn_354_0_0_ok 17 rfl))))))
  (e_Tok2
  (e_Tok2
  (e_Lok (ld_iload_n_1 (x_dk dn_354_0_0_ok 18 rfl)))
  (e_Tok2
  (e_Lok (sm_iaload (x_dk dn_354_0_0_ok 19 rfl)))
  (e_Lok (e_st (I := eI) (er_icmpge (off := 50) (tg := 82) (x_dk dn_354_0_0_ok 20 rfl) (by decide)) nx_if2))))
  (e_Tok2
  (e_Tok2
  (e_Lok (ld_iload_n_3 (x_dk dn_354_0_0_ok 21 rfl)))
  (e_Lok (e_st (I := eI) (er_ifeq (off := 46) (tg := 82) (x_dk dn_354_0_0_ok 22 rfl) (by decide)) nx_if1)))
  (e_Tok2
  (e_Lok (ld_aload_n_0 (x_dk dn_354_0_0_ok 23 rfl)))
  (e_Lok (lk_12_27g ho_354 (x_dk dn_354_0_0_ok 24 rfl))))))))
def te_354_25 : Nat → eE := (e_T 61 (e_T 51 (e_T 47 (e_T 43 (e_L 43 (0, ei_load 0 2 44, 0, 0)) (e_T 44 (e_L 44 (0, ei_getf eft elay 12 91 47, 0, 0)) (e_L 47 (0, ei_load 1 0 48, 0, 0)))) (e_T 48 (e_L 48 (0, ei_ald elay false 49, 0, 0)) (e_T 49 (e_L 49 (0, ei_load 4 0 51, 0, 0)) (e_L 51 (0, ei_bin eF_add 52, 0, 0))))) (e_T 54 (e_T 52 (e_L 52 (0, ei_ald elay true 53, 0, 0)) (e_T 53 (e_L 53 (0, ei_load 0 2 54, 0, 0)) (e_L 54 (0, ei_getf eft elay 12 8 57, 0, 0)))) (e_T 57 (e_L 57 (0, ei_load 0 2 58, 0, 0)) (e_T 58 (e_L 58 (0, ei_getf eft elay 12 91 61, 0, 0)) (e_L 61 (0, ei_load 2 0 62, 0, 0)))))) (e_T 70 (e_T 65 (e_T 62 (e_L 62 (0, ei_ald elay false 63, 0, 0)) (e_T 63 (e_L 63 (0, ei_load 4 0 65, 0, 0)) (e_L 65 (0, ei_bin eF_add 66, 0, 0)))) (e_T 66 (e_L 66 (0, ei_ald elay true 67, 0, 0)) (e_T 67 (e_L 67 (0, ei_if2 1 74 70, 0, 0)) (e_L 70 (0, ei_push (0, 1) 71, 0, 0))))) (e_T 75 (e_T 71 (e_L 71 (0, ei_goto 75, 0, 0)) (e_T 74 (e_L 74 (0, ei_push (0, 0) 75, 0, 0)) (e_L 75 (0, ei_stor 3 0 76, 0, 0)))) (e_T 79 (e_T 76 (e_L 76 (0, ei_inc 4 1 79, 0, 0)) (e_L 79 (0, ei_goto 24, 0, 0))) (e_T 82 (e_L 82 (0, ei_load 3 0 83, 0, 0)) (e_L 83 (1, e_nof, 4, 0)))))))
set_option maxRecDepth 20000 in
set_option maxHeartbeats 4000000 in
theorem te_354_25_ok : ∀ pc, e_EOq eft cls elay eI n_354 pc (te_354_25 pc) :=
  (e_Tok2
  (e_Tok2
  (e_Tok2
  (e_Tok2
  (e_Lok (ld_aload_n_0 (x_dk dn_354_0_1_ok 0 rfl)))
  (e_Tok2
  (e_Lok (lk_12_213g ho_354 (x_dk dn_354_0_1_ok 1 rfl)))
  (e_Lok (ld_iload_n_1 (x_dk dn_354_0_1_ok 2 rfl)))))
  (e_Tok2
  (e_Lok (sm_iaload (x_dk dn_354_0_1_ok 3 rfl)))
  (e_Tok2
  (e_Lok (ld_iload_4 (x_dk dn_354_0_1_ok 4 rfl)))
  (e_Lok (sm_iadd (x_dk dn_354_0_1_ok 5 rfl))))))
  (e_Tok2
  (e_Tok2
  (e_Lok (e_st (I := eI) (er_baload (x_dk dn_354_0_1_ok 6 rfl)) nx_ald))
  (e_Tok2
  (e_Lok (ld_aload_n_0 (x_dk dn_354_0_1_ok 7 rfl)))
  (e_Lok (lk_12_27g ho_354 (x_dk dn_354_0_1_ok 8 rfl)))))
  (e_Tok2
  (e_Lok (ld_aload_n_0 (x_dk dn_354_0_1_ok 9 rfl)))
  (e_Tok2
  (e_Lok (lk_12_213g ho_354 (x_dk dn_354_0_1_ok 10 rfl)))
  (e_Lok (ld_iload_n_2 (x_dk dn_354_0_1_ok 11 rfl)))))))
  (e_Tok2
  (e_Tok2
  (e_Tok2
  (e_Lok (sm_iaload (x_dk dn_354_0_1_ok 12 rfl)))
  (e_Tok2
  (e_Lok (ld_iload_4 (x_dk dn_354_0_1_ok 13 rfl)))
  (e_Lok (sm_iadd (x_dk dn_354_0_1_ok 14 rfl)))))
  (e_Tok2
  (e_Lok (e_st (I := eI) (er_baload (x_dk dn_354_0_1_ok 15 rfl)) nx_ald))
  (e_Tok2
  (e_Lok (e_st (I := eI) (er_icmpne (off := 7) (tg := 74) (x_dk dn_354_0_1_ok 16 rfl) (by decide)) nx_if2))
  (e_Lok (ps_iconst_1 (x_dk dn_354_0_1_ok 17 rfl))))))
  (e_Tok2
  (e_Tok2
  (e_Lok (e_st (I := eI) (er_goto (off := 4) (tg := 75) (x_dk dn_354_0_1_ok 18 rfl) (by decide)) nx_goto))
  (e_Tok2
  (e_Lok (ps_iconst_0 (x_dk dn_354_0_1_ok 19 rfl)))
  (e_Lok (e_st (I := eI) (er_istore_n (i := 3) (x_dk dn_354_0_1_ok 20 rfl) (by decide +kernel)) nx_stor))))
  (e_Tok2
  (e_Tok2
  (e_Lok (e_st (I := eI) (er_iinc (i := 4) (n := 1) (x_dk dn_354_0_1_ok 21 rfl) (by decide +kernel) (by decide)) nx_inc))
  (e_Lok (e_st (I := eI) (er_goto (off := (-55)) (tg := 24) (x_dk dn_354_0_1_ok 22 rfl) (by decide)) nx_goto)))
  (e_Tok2
  (e_Lok (ld_iload_n_3 (x_dk dn_354_0_1_ok 23 rfl)))
  (e_Lok (e_rt (I := eI) (k := 4) ⟨(x_dk dn_354_0_1_ok 24 rfl), rfl⟩)))))))
def te_354 : Nat → eE := (e_T 40 te_354_0 te_354_25)
theorem te_354_ok : ∀ pc, e_EOq eft cls elay eI n_354 pc (te_354 pc) := (e_Tok2 (te_354_0_ok) (te_354_25_ok))
theorem ho_355 : (xm_y n_355).cls = "RobotCellHouseModel" := rfl
def dn_355_0_0 : List (Nat × Instr × Nat) := [(0, .iconst 0, 1), (1, .istore 4, 2), (3, .iconst 0, 1), (4, .istore 5, 2), (6, .iload 5, 2), (8, .iload_n 3, 1), (9, .if_icmp .ge 36, 3), (12, .aload_n 0, 1), (13, .getfield 210, 3), (16, .iload 5, 2), (18, .iaload, 1), (19, .iload_n 1, 1), (20, .if_icmp .ne 19, 3), (23, .aload_n 0, 1), (24, .iload 5, 2), (26, .iload_n 2, 1), (27, .invokevirtual 632, 3), (30, .ifCond .eq 6, 3), (33, .iload 4, 2), (35, .ireturn, 1), (36, .iinc 4 1, 3), (39, .iinc 5 1, 3), (42, .goto (-36), 3), (45, .iconst (-1), 1), (46, .ireturn, 1)]
set_option maxRecDepth 20000 in
theorem dn_355_0_0_ok : dn_355_0_0.all (fun q => decide (decode (xm_b n_355) q.1 = .ok (q.2.1, q.2.2))) = true := xa_g_ok (by decide +kernel)
def te_355_0 : Nat → eE := (e_T 19 (e_T 8 (e_T 3 (e_T 0 (e_L 0 (0, ei_push (0, 0) 1, 0, 0)) (e_T 1 (e_L 1 (0, ei_stor 4 0 3, 0, 0)) (e_L 3 (0, ei_push (0, 0) 4, 0, 0)))) (e_T 4 (e_L 4 (0, ei_stor 5 0 6, 0, 0)) (e_T 6 (e_L 6 (0, ei_load 5 0 8, 0, 0)) (e_L 8 (0, ei_load 3 0 9, 0, 0))))) (e_T 13 (e_T 9 (e_L 9 (0, ei_if2 3 45 12, 0, 0)) (e_T 12 (e_L 12 (0, ei_load 0 2 13, 0, 0)) (e_L 13 (0, ei_getf eft elay 12 90 16, 0, 0)))) (e_T 16 (e_L 16 (0, ei_load 5 0 18, 0, 0)) (e_T 18 (e_L 18 (0, ei_ald elay false 19, 0, 0)) (e_L 19 (0, ei_load 1 0 20, 0, 0)))))) (e_T 30 (e_T 24 (e_T 20 (e_L 20 (0, ei_if2 1 39 23, 0, 0)) (e_T 23 (e_L 23 (0, ei_load 0 2 24, 0, 0)) (e_L 24 (0, ei_load 5 0 26, 0, 0)))) (e_T 26 (e_L 26 (0, ei_load 2 0 27, 0, 0)) (e_T 27 (e_L 27 (2, e_nof, 354, 3)) (e_L 30 (0, ei_if1 0 36 33, 0, 0))))) (e_T 36 (e_T 33 (e_L 33 (0, ei_load 4 0 35, 0, 0)) (e_T 35 (e_L 35 (1, e_nof, 1, 0)) (e_L 36 (0, ei_inc 4 1 39, 0, 0)))) (e_T 42 (e_T 39 (e_L 39 (0, ei_inc 5 1 42, 0, 0)) (e_L 42 (0, ei_goto 6, 0, 0))) (e_T 45 (e_L 45 (0, ei_push (0, (-1)) 46, 0, 0)) (e_L 46 (1, e_nof, 1, 0)))))))
set_option maxRecDepth 20000 in
set_option maxHeartbeats 4000000 in
theorem te_355_0_ok : ∀ pc, e_EOq eft cls elay eI n_355 pc (te_355_0 pc) :=
  (e_Tok2
  (e_Tok2
  (e_Tok2
  (e_Tok2
  (e_Lok (ps_iconst_0 (x_dk dn_355_0_0_ok 0 rfl)))
  (e_Tok2
  (e_Lok (e_st (I := eI) (er_istore (i := 4) (x_dk dn_355_0_0_ok 1 rfl) (by decide +kernel)) nx_stor))
  (e_Lok (ps_iconst_0 (x_dk dn_355_0_0_ok 2 rfl)))))
  (e_Tok2
  (e_Lok (e_st (I := eI) (er_istore (i := 5) (x_dk dn_355_0_0_ok 3 rfl) (by decide +kernel)) nx_stor))
  (e_Tok2
  (e_Lok (ld_iload_5 (x_dk dn_355_0_0_ok 4 rfl)))
  (e_Lok (ld_iload_n_3 (x_dk dn_355_0_0_ok 5 rfl))))))
  (e_Tok2
  (e_Tok2
  (e_Lok (e_st (I := eI) (er_icmpge (off := 36) (tg := 45) (x_dk dn_355_0_0_ok 6 rfl) (by decide)) nx_if2))
  (e_Tok2
  (e_Lok (ld_aload_n_0 (x_dk dn_355_0_0_ok 7 rfl)))
  (e_Lok (lk_12_210g ho_355 (x_dk dn_355_0_0_ok 8 rfl)))))
  (e_Tok2
  (e_Lok (ld_iload_5 (x_dk dn_355_0_0_ok 9 rfl)))
  (e_Tok2
  (e_Lok (sm_iaload (x_dk dn_355_0_0_ok 10 rfl)))
  (e_Lok (ld_iload_n_1 (x_dk dn_355_0_0_ok 11 rfl)))))))
  (e_Tok2
  (e_Tok2
  (e_Tok2
  (e_Lok (e_st (I := eI) (er_icmpne (off := 19) (tg := 39) (x_dk dn_355_0_0_ok 12 rfl) (by decide)) nx_if2))
  (e_Tok2
  (e_Lok (ld_aload_n_0 (x_dk dn_355_0_0_ok 13 rfl)))
  (e_Lok (ld_iload_5 (x_dk dn_355_0_0_ok 14 rfl)))))
  (e_Tok2
  (e_Lok (ld_iload_n_2 (x_dk dn_355_0_0_ok 15 rfl)))
  (e_Tok2
  (e_Lok (lk_12_632 ho_355 (x_dk dn_355_0_0_ok 16 rfl)))
  (e_Lok (e_st (I := eI) (er_ifeq (off := 6) (tg := 36) (x_dk dn_355_0_0_ok 17 rfl) (by decide)) nx_if1)))))
  (e_Tok2
  (e_Tok2
  (e_Lok (ld_iload_4 (x_dk dn_355_0_0_ok 18 rfl)))
  (e_Tok2
  (e_Lok (e_rt (I := eI) (k := 1) ⟨(x_dk dn_355_0_0_ok 19 rfl), rfl⟩))
  (e_Lok (e_st (I := eI) (er_iinc (i := 4) (n := 1) (x_dk dn_355_0_0_ok 20 rfl) (by decide +kernel) (by decide)) nx_inc))))
  (e_Tok2
  (e_Tok2
  (e_Lok (e_st (I := eI) (er_iinc (i := 5) (n := 1) (x_dk dn_355_0_0_ok 21 rfl) (by decide +kernel) (by decide)) nx_inc))
  (e_Lok (e_st (I := eI) (er_goto (off := (-36)) (tg := 6) (x_dk dn_355_0_0_ok 22 rfl) (by decide)) nx_goto)))
  (e_Tok2
  (e_Lok (ps_iconst_m1 (x_dk dn_355_0_0_ok 23 rfl)))
  (e_Lok (e_rt (I := eI) (k := 1) ⟨(x_dk dn_355_0_0_ok 24 rfl), rfl⟩)))))))
def te_355 : Nat → eE := te_355_0
theorem te_355_ok : ∀ pc, e_EOq eft cls elay eI n_355 pc (te_355 pc) := te_355_0_ok
theorem ho_356 : (xm_y n_356).cls = "RobotCellHouseModel" := rfl
def dn_356_0_0 : List (Nat × Instr × Nat) := [(0, .iconst 0, 1), (1, .istore_n 1, 1), (2, .iload_n 1, 1), (3, .aload_n 0, 1), (4, .getfield 552, 3), (7, .if_icmp .ge 216, 3), (10, .aload_n 0, 1), (11, .getfield 530, 3), (14, .ifCond .ne 209, 3), (17, .aload_n 0, 1), (18, .getfield 210, 3), (21, .iload_n 1, 1), (22, .iaload, 1), (23, .istore_n 2, 1), (24, .iconst 0, 1), (25, .istore_n 3, 1), (26, .iload_n 2, 1), (27, .iconst 2, 1), (28, .if_icmp .ge 117, 3), (31, .aload_n 0, 1), (32, .iconst 0, 1), (33, .iload_n 1, 1), (34, .iload_n 1, 1), (35, .invokevirtual 635, 3), (38, .ifCond .ge 13, 3)]
set_option maxRecDepth 20000 in
theorem dn_356_0_0_ok : dn_356_0_0.all (fun q => decide (decode (xm_b n_356) q.1 = .ok (q.2.1, q.2.2))) = true := xa_g_ok (by decide +kernel)
def dn_356_0_1 : List (Nat × Instr × Nat) := [(41, .aload_n 0, 1), (42, .iconst 1, 1), (43, .iload_n 1, 1), (44, .iload_n 1, 1), (45, .invokevirtual 635, 3), (48, .ifCond .lt 7, 3), (51, .iconst 4, 1), (52, .goto 33, 3), (55, .iload_n 2, 1), (56, .ifCond .ne 12, 3), (59, .aload_n 0, 1), (60, .getfield 204, 3), (63, .iconst 4, 1), (64, .iaload, 1), (65, .goto 9, 3), (68, .aload_n 0, 1), (69, .getfield 201, 3), (72, .iconst 4, 1), (73, .iaload, 1), (74, .bipush 32, 2), (76, .if_icmp .ne 8, 3), (79, .bipush 7, 2), (81, .goto 4, 3), (84, .iconst 0, 1), (85, .istore_n 3, 1)]
set_option maxRecDepth 20000 in
theorem dn_356_0_1_ok : dn_356_0_1.all (fun q => decide (decode (xm_b n_356) q.1 = .ok (q.2.1, q.2.2))) = true := xa_g_ok (by decide +kernel)
def dn_356_0_2 : List (Nat × Instr × Nat) := [(86, .iload_n 3, 1), (87, .ifCond .ne 20, 3), (90, .iload_n 2, 1), (91, .ifCond .ne 16, 3), (94, .aload_n 0, 1), (95, .getfield 204, 3), (98, .iconst 4, 1), (99, .dup2, 1), (100, .iaload, 1), (101, .iconst 1, 1), (102, .iadd, 1), (103, .iastore, 1), (104, .goto 94, 3), (107, .iload_n 3, 1), (108, .ifCond .ne 90, 3), (111, .aload_n 0, 1), (112, .getfield 198, 3), (115, .sipush 128, 3), (118, .aload_n 0, 1), (119, .getfield 201, 3), (122, .iconst 4, 1), (123, .iaload, 1), (124, .iadd, 1), (125, .aload_n 0, 1), (126, .getfield 219, 3)]
set_option maxRecDepth 20000 in
theorem dn_356_0_2_ok : dn_356_0_2.all (fun q => decide (decode (xm_b n_356) q.1 = .ok (q.2.1, q.2.2))) = true := xa_g_ok (by decide +kernel)
def dn_356_0_3 : List (Nat × Instr × Nat) := [(129, .iload_n 1, 1), (130, .iaload, 1), (131, .iastore, 1), (132, .aload_n 0, 1), (133, .getfield 201, 3), (136, .iconst 4, 1), (137, .dup2, 1), (138, .iaload, 1), (139, .iconst 1, 1), (140, .iadd, 1), (141, .iastore, 1), (142, .goto 56, 3), (145, .iload_n 2, 1), (146, .iconst 4, 1), (147, .if_icmp .ne 9, 3), (150, .bipush 6, 2), (152, .istore_n 3, 1), (153, .goto 45, 3), (156, .aload_n 0, 1), (157, .iload_n 2, 1), (158, .iconst 2, 1), (159, .isub, 1), (160, .iload_n 1, 1), (161, .aload_n 0, 1), (162, .getfield 552, 3)]
set_option maxRecDepth 20000 in
theorem dn_356_0_3_ok : dn_356_0_3.all (fun q => decide (decode (xm_b n_356) q.1 = .ok (q.2.1, q.2.2))) = true := xa_g_ok (by decide +kernel)
def dn_356_1_0 : List (Nat × Instr × Nat) := [(165, .invokevirtual 635, 3), (168, .istore 4, 2), (170, .iload 4, 2), (172, .ifCond .ge 7, 3), (175, .iconst 5, 1), (176, .goto 4, 3), (179, .iconst 0, 1), (180, .istore_n 3, 1), (181, .aload_n 0, 1), (182, .getfield 174, 3), (185, .ldc_w 545, 3), (188, .aload_n 0, 1), (189, .getfield 219, 3), (192, .iload_n 1, 1), (193, .iaload, 1), (194, .iadd, 1), (195, .iload 4, 2), (197, .iastore, 1), (198, .iload_n 3, 1), (199, .ifCond .eq 18, 3), (202, .aload_n 0, 1), (203, .iload_n 3, 1), (204, .putfield 530, 3), (207, .aload_n 0, 1), (208, .aload_n 0, 1)]
set_option maxRecDepth 20000 in
theorem dn_356_1_0_ok : dn_356_1_0.all (fun q => decide (decode (xm_b n_356) q.1 = .ok (q.2.1, q.2.2))) = true := xa_g_ok (by decide +kernel)
def dn_356_1_1 : List (Nat × Instr × Nat) := [(209, .getfield 213, 3), (212, .iload_n 1, 1), (213, .iaload, 1), (214, .putfield 533, 3), (217, .iinc 1 1, 3), (220, .goto (-218), 3), (223, .return_, 1)]
set_option maxRecDepth 20000 in
theorem dn_356_1_1_ok : dn_356_1_1.all (fun q => decide (decode (xm_b n_356) q.1 = .ok (q.2.1, q.2.2))) = true := xa_g_ok (by decide +kernel)
def te_356_0 : Nat → eE := (e_T 25 (e_T 11 (e_T 3 (e_T 1 (e_T 0 (e_L 0 (0, ei_push (0, 0) 1, 0, 0)) (e_L 1 (0, ei_stor 1 0 2, 0, 0))) (e_T 2 (e_L 2 (0, ei_load 1 0 3, 0, 0)) (e_L 3 (0, ei_load 0 2 4, 0, 0)))) (e_T 7 (e_T 4 (e_L 4 (0, ei_getf eft elay 12 94 7, 0, 0)) (e_L 7 (0, ei_if2 3 223 10, 0, 0))) (e_T 10 (e_L 10 (0, ei_load 0 2 11, 0, 0)) (e_L 11 (0, ei_getf eft elay 12 88 14, 0, 0))))) (e_T 21 (e_T 17 (e_T 14 (e_L 14 (0, ei_if1 1 223 17, 0, 0)) (e_L 17 (0, ei_load 0 2 18, 0, 0))) (e_T 18 (e_L 18 (0, ei_getf eft elay 12 90 21, 0, 0)) (e_L 21 (0, ei_load 1 0 22, 0, 0)))) (e_T 23 (e_T 22 (e_L 22 (0, ei_ald elay false 23, 0, 0)) (e_L 23 (0, ei_stor 2 0 24, 0, 0))) (e_T 24 (e_L 24 (0, ei_push (0, 0) 25, 0, 0)) (e_L 25 (0, ei_stor 3 0 26, 0, 0)))))) (e_T 35 (e_T 31 (e_T 27 (e_T 26 (e_L 26 (0, ei_load 2 0 27, 0, 0)) (e_L 27 (0, ei_push (0, 2) 28, 0, 0))) (e_T 28 (e_L 28 (0, ei_if2 3 145 31, 0, 0)) (e_L 31 (0, ei_load 0 2 32, 0, 0)))) (e_T 33 (e_T 32 (e_L 32 (0, ei_push (0, 0) 33, 0, 0)) (e_L 33 (0, ei_load 1 0 34, 0, 0))) (e_T 34 (e_L 34 (0, ei_load 1 0 35, 0, 0)) (e_L 35 (2, e_nof, 355, 4))))) (e_T 43 (e_T 41 (e_T 38 (e_L 38 (0, ei_if1 3 51 41, 0, 0)) (e_L 41 (0, ei_load 0 2 42, 0, 0))) (e_T 42 (e_L 42 (0, ei_push (0, 1) 43, 0, 0)) (e_L 43 (0, ei_load 1 0 44, 0, 0)))) (e_T 45 (e_T 44 (e_L 44 (0, ei_load 1 0 45, 0, 0)) (e_L 45 (2, e_nof, 355, 4))) (e_T 48 (e_L 48 (0, ei_if1 2 55 51, 0, 0)) (e_T 51 (e_L 51 (0, ei_push (0, 4) 52, 0, 0)) (e_L 52 (0, ei_goto 85, 0, 0))))))))
set_option maxRecDepth 20000 in
set_option maxHeartbeats 4000000 in
theorem te_356_0_ok : ∀ pc, e_EOq eft cls elay eI n_356 pc (te_356_0 pc) :=
  (e_Tok2
  (e_Tok2
  (e_Tok2
  (e_Tok2
  (e_Tok2
  (e_Lok (ps_iconst_0 (x_dk dn_356_0_0_ok 0 rfl)))
  (e_Lok (e_st (I := eI) (er_istore_n (i := 1) (x_dk dn_356_0_0_ok 1 rfl) (by decide +kernel)) nx_stor)))
  (e_Tok2
  (e_Lok (ld_iload_n_1 (x_dk dn_356_0_0_ok 2 rfl)))
  (e_Lok (ld_aload_n_0 (x_dk dn_356_0_0_ok 3 rfl)))))
  (e_Tok2
  (e_Tok2
  (e_Lok (lk_12_552g ho_356 (x_dk dn_356_0_0_ok 4 rfl)))
  (e_Lok (e_st (I := eI) (er_icmpge (off := 216) (tg := 223) (x_dk dn_356_0_0_ok 5 rfl) (by decide)) nx_if2)))
  (e_Tok2
  (e_Lok (ld_aload_n_0 (x_dk dn_356_0_0_ok 6 rfl)))
  (e_Lok (lk_12_530g ho_356 (x_dk dn_356_0_0_ok 7 rfl))))))
  (e_Tok2
  (e_Tok2
  (e_Tok2
  (e_Lok (e_st (I := eI) (er_ifne (off := 209) (tg := 223) (x_dk dn_356_0_0_ok 8 rfl) (by decide)) nx_if1))
  (e_Lok (ld_aload_n_0 (x_dk dn_356_0_0_ok 9 rfl))))
  (e_Tok2
  (e_Lok (lk_12_210g ho_356 (x_dk dn_356_0_0_ok 10 rfl)))
  (e_Lok (ld_iload_n_1 (x_dk dn_356_0_0_ok 11 rfl)))))
  (e_Tok2
  (e_Tok2
  (e_Lok (sm_iaload (x_dk dn_356_0_0_ok 12 rfl)))
  (e_Lok (e_st (I := eI) (er_istore_n (i := 2) (x_dk dn_356_0_0_ok 13 rfl) (by decide +kernel)) nx_stor)))
  (e_Tok2
  (e_Lok (ps_iconst_0 (x_dk dn_356_0_0_ok 14 rfl)))
  (e_Lok (e_st (I := eI) (er_istore_n (i := 3) (x_dk dn_356_0_0_ok 15 rfl) (by decide +kernel)) nx_stor))))))
  (e_Tok2
  (e_Tok2
  (e_Tok2
  (e_Tok2
  (e_Lok (ld_iload_n_2 (x_dk dn_356_0_0_ok 16 rfl)))
  (e_Lok (ps_iconst_2 (x_dk dn_356_0_0_ok 17 rfl))))
  (e_Tok2
  (e_Lok (e_st (I := eI) (er_icmpge (off := 117) (tg := 145) (x_dk dn_356_0_0_ok 18 rfl) (by decide)) nx_if2))
  (e_Lok (ld_aload_n_0 (x_dk dn_356_0_0_ok 19 rfl)))))
  (e_Tok2
  (e_Tok2
  (e_Lok (ps_iconst_0 (x_dk dn_356_0_0_ok 20 rfl)))
  (e_Lok (ld_iload_n_1 (x_dk dn_356_0_0_ok 21 rfl))))
  (e_Tok2
  (e_Lok (ld_iload_n_1 (x_dk dn_356_0_0_ok 22 rfl)))
  (e_Lok (lk_12_635 ho_356 (x_dk dn_356_0_0_ok 23 rfl))))))
  (e_Tok2
  (e_Tok2
  (e_Tok2
  (e_Lok (e_st (I := eI) (er_ifge (off := 13) (tg := 51) (x_dk dn_356_0_0_ok 24 rfl) (by decide)) nx_if1))
  (e_Lok (ld_aload_n_0 (x_dk dn_356_0_1_ok 0 rfl))))
  (e_Tok2
  (e_Lok (ps_iconst_1 (x_dk dn_356_0_1_ok 1 rfl)))
  (e_Lok (ld_iload_n_1 (x_dk dn_356_0_1_ok 2 rfl)))))
  (e_Tok2
  (e_Tok2
  (e_Lok (ld_iload_n_1 (x_dk dn_356_0_1_ok 3 rfl)))
  (e_Lok (lk_12_635 ho_356 (x_dk dn_356_0_1_ok 4 rfl))))
  (e_Tok2
  (e_Lok (e_st (I := eI) (er_iflt (off := 7) (tg := 55) (x_dk dn_356_0_1_ok 5 rfl) (by decide)) nx_if1))
  (e_Tok2
  (e_Lok (ps_iconst_4 (x_dk dn_356_0_1_ok 6 rfl)))
  (e_Lok (e_st (I := eI) (er_goto (off := 33) (tg := 85) (x_dk dn_356_0_1_ok 7 rfl) (by decide)) nx_goto))))))))
def te_356_33 : Nat → eE := (e_T 84 (e_T 68 (e_T 60 (e_T 56 (e_T 55 (e_L 55 (0, ei_load 2 0 56, 0, 0)) (e_L 56 (0, ei_if1 1 68 59, 0, 0))) (e_T 59 (e_L 59 (0, ei_load 0 2 60, 0, 0)) (e_L 60 (0, ei_getf eft elay 12 76 63, 0, 0)))) (e_T 64 (e_T 63 (e_L 63 (0, ei_push (0, 4) 64, 0, 0)) (e_L 64 (0, ei_ald elay false 65, 0, 0))) (e_T 65 (e_L 65 (0, ei_goto 74, 0, 0)) (e_L 68 (0, ei_load 0 2 69, 0, 0))))) (e_T 74 (e_T 72 (e_T 69 (e_L 69 (0, ei_getf eft elay 12 75 72, 0, 0)) (e_L 72 (0, ei_push (0, 4) 73, 0, 0))) (e_T 73 (e_L 73 (0, ei_ald elay false 74, 0, 0)) (e_L 74 (0, ei_push (0, 32) 76, 0, 0)))) (e_T 79 (e_T 76 (e_L 76 (0, ei_if2 1 84 79, 0, 0)) (e_L 79 (0, ei_push (0, 7) 81, 0, 0))) (e_T 81 (e_L 81 (0, ei_goto 85, 0, 0)) (e_L 84 (0, ei_push (0, 0) 85, 0, 0)))))) (e_T 98 (e_T 90 (e_T 86 (e_T 85 (e_L 85 (0, ei_stor 3 0 86, 0, 0)) (e_L 86 (0, ei_load 3 0 87, 0, 0))) (e_T 87 (e_L 87 (0, ei_if1 1 107 90, 0, 0)) (e_L 90 (0, ei_load 2 0 91, 0, 0)))) (e_T 94 (e_T 91 (e_L 91 (0, ei_if1 1 107 94, 0, 0)) (e_L 94 (0, ei_load 0 2 95, 0, 0))) (e_T 95 (e_L 95 (0, ei_getf eft elay 12 76 98, 0, 0)) (e_L 98 (0, ei_push (0, 4) 99, 0, 0))))) (e_T 102 (e_T 100 (e_T 99 (e_L 99 (0, ei_stk ef_dup2 100, 0, 0)) (e_L 100 (0, ei_ald elay false 101, 0, 0))) (e_T 101 (e_L 101 (0, ei_push (0, 1) 102, 0, 0)) (e_L 102 (0, ei_bin eF_add 103, 0, 0)))) (e_T 104 (e_T 103 (e_L 103 (0, ei_ast elay false 104, 0, 0)) (e_L 104 (0, ei_goto 198, 0, 0))) (e_T 107 (e_L 107 (0, ei_load 3 0 108, 0, 0)) (e_T 108 (e_L 108 (0, ei_if1 1 198 111, 0, 0)) (e_L 111 (0, ei_load 0 2 112, 0, 0))))))))
set_option maxRecDepth 20000 in
set_option maxHeartbeats 4000000 in
theorem te_356_33_ok : ∀ pc, e_EOq eft cls elay eI n_356 pc (te_356_33 pc) :=
  (e_Tok2
  (e_Tok2
  (e_Tok2
  (e_Tok2
  (e_Tok2
  (e_Lok (ld_iload_n_2 (x_dk dn_356_0_1_ok 8 rfl)))
  (e_Lok (e_st (I := eI) (er_ifne (off := 12) (tg := 68) (x_dk dn_356_0_1_ok 9 rfl) (by decide)) nx_if1)))
  (e_Tok2
  (e_Lok (ld_aload_n_0 (x_dk dn_356_0_1_ok 10 rfl)))
  (e_Lok (lk_12_204g ho_356 (x_dk dn_356_0_1_ok 11 rfl)))))
  (e_Tok2
  (e_Tok2
  (e_Lok (ps_iconst_4 (x_dk dn_356_0_1_ok 12 rfl)))
  (e_Lok (sm_iaload (x_dk dn_356_0_1_ok 13 rfl))))
  (e_Tok2
  (e_Lok (e_st (I := eI) (er_goto (off := 9) (tg := 74) (x_dk dn_356_0_1_ok 14 rfl) (by decide)) nx_goto))
  (e_Lok (ld_aload_n_0 (x_dk dn_356_0_1_ok 15 rfl))))))
  (e_Tok2
  (e_Tok2
  (e_Tok2
  (e_Lok (lk_12_201g ho_356 (x_dk dn_356_0_1_ok 16 rfl)))
  (e_Lok (ps_iconst_4 (x_dk dn_356_0_1_ok 17 rfl))))
  (e_Tok2
  (e_Lok (sm_iaload (x_dk dn_356_0_1_ok 18 rfl)))
  (e_Lok (ps_bipush_32 (x_dk dn_356_0_1_ok 19 rfl)))))
  (e_Tok2
  (e_Tok2
  (e_Lok (e_st (I := eI) (er_icmpne (off := 8) (tg := 84) (x_dk dn_356_0_1_ok 20 rfl) (by decide)) nx_if2))
  (e_Lok (ps_bipush_7 (x_dk dn_356_0_1_ok 21 rfl))))
  (e_Tok2
  (e_Lok (e_st (I := eI) (er_goto (off := 4) (tg := 85) (x_dk dn_356_0_1_ok 22 rfl) (by decide)) nx_goto))
  (e_Lok (ps_iconst_0 (x_dk dn_356_0_1_ok 23 rfl)))))))
  (e_Tok2
  (e_Tok2
  (e_Tok2
  (e_Tok2
  (e_Lok (e_st (I := eI) (er_istore_n (i := 3) (x_dk dn_356_0_1_ok 24 rfl) (by decide +kernel)) nx_stor))
  (e_Lok (ld_iload_n_3 (x_dk dn_356_0_2_ok 0 rfl))))
  (e_Tok2
  (e_Lok (e_st (I := eI) (er_ifne (off := 20) (tg := 107) (x_dk dn_356_0_2_ok 1 rfl) (by decide)) nx_if1))
  (e_Lok (ld_iload_n_2 (x_dk dn_356_0_2_ok 2 rfl)))))
  (e_Tok2
  (e_Tok2
  (e_Lok (e_st (I := eI) (er_ifne (off := 16) (tg := 107) (x_dk dn_356_0_2_ok 3 rfl) (by decide)) nx_if1))
  (e_Lok (ld_aload_n_0 (x_dk dn_356_0_2_ok 4 rfl))))
  (e_Tok2
  (e_Lok (lk_12_204g ho_356 (x_dk dn_356_0_2_ok 5 rfl)))
  (e_Lok (ps_iconst_4 (x_dk dn_356_0_2_ok 6 rfl))))))
  (e_Tok2
  (e_Tok2
  (e_Tok2
  (e_Lok (e_st (I := eI) (er_dup2 (x_dk dn_356_0_2_ok 7 rfl)) (nx_stk bf_dup2)))
  (e_Lok (sm_iaload (x_dk dn_356_0_2_ok 8 rfl))))
  (e_Tok2
  (e_Lok (ps_iconst_1 (x_dk dn_356_0_2_ok 9 rfl)))
  (e_Lok (sm_iadd (x_dk dn_356_0_2_ok 10 rfl)))))
  (e_Tok2
  (e_Tok2
  (e_Lok (sm_iastore (x_dk dn_356_0_2_ok 11 rfl)))
  (e_Lok (e_st (I := eI) (er_goto (off := 94) (tg := 198) (x_dk dn_356_0_2_ok 12 rfl) (by decide)) nx_goto)))
  (e_Tok2
  (e_Lok (ld_iload_n_3 (x_dk dn_356_0_2_ok 13 rfl)))
  (e_Tok2
  (e_Lok (e_st (I := eI) (er_ifne (off := 90) (tg := 198) (x_dk dn_356_0_2_ok 14 rfl) (by decide)) nx_if1))
  (e_Lok (ld_aload_n_0 (x_dk dn_356_0_2_ok 15 rfl)))))))))
def te_356_66 : Nat → eE := (e_T 137 (e_T 125 (e_T 119 (e_T 115 (e_T 112 (e_L 112 (0, ei_getf eft elay 12 74 115, 0, 0)) (e_L 115 (0, ei_push (0, 128) 118, 0, 0))) (e_T 118 (e_L 118 (0, ei_load 0 2 119, 0, 0)) (e_L 119 (0, ei_getf eft elay 12 75 122, 0, 0)))) (e_T 123 (e_T 122 (e_L 122 (0, ei_push (0, 4) 123, 0, 0)) (e_L 123 (0, ei_ald elay false 124, 0, 0))) (e_T 124 (e_L 124 (0, ei_bin eF_add 125, 0, 0)) (e_L 125 (0, ei_load 0 2 126, 0, 0))))) (e_T 131 (e_T 129 (e_T 126 (e_L 126 (0, ei_getf eft elay 12 93 129, 0, 0)) (e_L 129 (0, ei_load 1 0 130, 0, 0))) (e_T 130 (e_L 130 (0, ei_ald elay false 131, 0, 0)) (e_L 131 (0, ei_ast elay false 132, 0, 0)))) (e_T 133 (e_T 132 (e_L 132 (0, ei_load 0 2 133, 0, 0)) (e_L 133 (0, ei_getf eft elay 12 75 136, 0, 0))) (e_T 136 (e_L 136 (0, ei_push (0, 4) 137, 0, 0)) (e_L 137 (0, ei_stk ef_dup2 138, 0, 0)))))) (e_T 147 (e_T 141 (e_T 139 (e_T 138 (e_L 138 (0, ei_ald elay false 139, 0, 0)) (e_L 139 (0, ei_push (0, 1) 140, 0, 0))) (e_T 140 (e_L 140 (0, ei_bin eF_add 141, 0, 0)) (e_L 141 (0, ei_ast elay false 142, 0, 0)))) (e_T 145 (e_T 142 (e_L 142 (0, ei_goto 198, 0, 0)) (e_L 145 (0, ei_load 2 0 146, 0, 0))) (e_T 146 (e_L 146 (0, ei_push (0, 4) 147, 0, 0)) (e_L 147 (0, ei_if2 1 156 150, 0, 0))))) (e_T 156 (e_T 152 (e_T 150 (e_L 150 (0, ei_push (0, 6) 152, 0, 0)) (e_L 152 (0, ei_stor 3 0 153, 0, 0))) (e_T 153 (e_L 153 (0, ei_goto 198, 0, 0)) (e_L 156 (0, ei_load 0 2 157, 0, 0)))) (e_T 158 (e_T 157 (e_L 157 (0, ei_load 2 0 158, 0, 0)) (e_L 158 (0, ei_push (0, 2) 159, 0, 0))) (e_T 159 (e_L 159 (0, ei_bin eF_sub 160, 0, 0)) (e_T 160 (e_L 160 (0, ei_load 1 0 161, 0, 0)) (e_L 161 (0, ei_load 0 2 162, 0, 0))))))))
set_option maxRecDepth 20000 in
set_option maxHeartbeats 4000000 in
theorem te_356_66_ok : ∀ pc, e_EOq eft cls elay eI n_356 pc (te_356_66 pc) :=
  (e_Tok2
  (e_Tok2
  (e_Tok2
  (e_Tok2
  (e_Tok2
  (e_Lok (lk_12_198g ho_356 (x_dk dn_356_0_2_ok 16 rfl)))
  (e_Lok (ps_sipush_128 (x_dk dn_356_0_2_ok 17 rfl))))
  (e_Tok2
  (e_Lok (ld_aload_n_0 (x_dk dn_356_0_2_ok 18 rfl)))
  (e_Lok (lk_12_201g ho_356 (x_dk dn_356_0_2_ok 19 rfl)))))
  (e_Tok2
  (e_Tok2
  (e_Lok (ps_iconst_4 (x_dk dn_356_0_2_ok 20 rfl)))
  (e_Lok (sm_iaload (x_dk dn_356_0_2_ok 21 rfl))))
  (e_Tok2
  (e_Lok (sm_iadd (x_dk dn_356_0_2_ok 22 rfl)))
  (e_Lok (ld_aload_n_0 (x_dk dn_356_0_2_ok 23 rfl))))))
  (e_Tok2
  (e_Tok2
  (e_Tok2
  (e_Lok (lk_12_219g ho_356 (x_dk dn_356_0_2_ok 24 rfl)))
  (e_Lok (ld_iload_n_1 (x_dk dn_356_0_3_ok 0 rfl))))
  (e_Tok2
  (e_Lok (sm_iaload (x_dk dn_356_0_3_ok 1 rfl)))
  (e_Lok (sm_iastore (x_dk dn_356_0_3_ok 2 rfl)))))
  (e_Tok2
  (e_Tok2
  (e_Lok (ld_aload_n_0 (x_dk dn_356_0_3_ok 3 rfl)))
  (e_Lok (lk_12_201g ho_356 (x_dk dn_356_0_3_ok 4 rfl))))
  (e_Tok2
  (e_Lok (ps_iconst_4 (x_dk dn_356_0_3_ok 5 rfl)))
  (e_Lok (e_st (I := eI) (er_dup2 (x_dk dn_356_0_3_ok 6 rfl)) (nx_stk bf_dup2)))))))
  (e_Tok2
  (e_Tok2
  (e_Tok2
  (e_Tok2
  (e_Lok (sm_iaload (x_dk dn_356_0_3_ok 7 rfl)))
  (e_Lok (ps_iconst_1 (x_dk dn_356_0_3_ok 8 rfl))))
  (e_Tok2
  (e_Lok (sm_iadd (x_dk dn_356_0_3_ok 9 rfl)))
  (e_Lok (sm_iastore (x_dk dn_356_0_3_ok 10 rfl)))))
  (e_Tok2
  (e_Tok2
  (e_Lok (e_st (I := eI) (er_goto (off := 56) (tg := 198) (x_dk dn_356_0_3_ok 11 rfl) (by decide)) nx_goto))
  (e_Lok (ld_iload_n_2 (x_dk dn_356_0_3_ok 12 rfl))))
  (e_Tok2
  (e_Lok (ps_iconst_4 (x_dk dn_356_0_3_ok 13 rfl)))
  (e_Lok (e_st (I := eI) (er_icmpne (off := 9) (tg := 156) (x_dk dn_356_0_3_ok 14 rfl) (by decide)) nx_if2)))))
  (e_Tok2
  (e_Tok2
  (e_Tok2
  (e_Lok (ps_bipush_6 (x_dk dn_356_0_3_ok 15 rfl)))
  (e_Lok (e_st (I := eI) (er_istore_n (i := 3) (x_dk dn_356_0_3_ok 16 rfl) (by decide +kernel)) nx_stor)))
  (e_Tok2
  (e_Lok (e_st (I := eI) (er_goto (off := 45) (tg := 198) (x_dk dn_356_0_3_ok 17 rfl) (by decide)) nx_goto))
  (e_Lok (ld_aload_n_0 (x_dk dn_356_0_3_ok 18 rfl)))))
  (e_Tok2
  (e_Tok2
  (e_Lok (ld_iload_n_2 (x_dk dn_356_0_3_ok 19 rfl)))
  (e_Lok (ps_iconst_2 (x_dk dn_356_0_3_ok 20 rfl))))
  (e_Tok2
  (e_Lok (sm_isub (x_dk dn_356_0_3_ok 21 rfl)))
  (e_Tok2
  (e_Lok (ld_iload_n_1 (x_dk dn_356_0_3_ok 22 rfl)))
  (e_Lok (ld_aload_n_0 (x_dk dn_356_0_3_ok 23 rfl)))))))))
def te_356_99 : Nat → eE := (e_T 193 (e_T 179 (e_T 170 (e_T 165 (e_T 162 (e_L 162 (0, ei_getf eft elay 12 94 165, 0, 0)) (e_L 165 (2, e_nof, 355, 4))) (e_T 168 (e_L 168 (0, ei_stor 4 0 170, 0, 0)) (e_L 170 (0, ei_load 4 0 172, 0, 0)))) (e_T 175 (e_T 172 (e_L 172 (0, ei_if1 3 179 175, 0, 0)) (e_L 175 (0, ei_push (0, 5) 176, 0, 0))) (e_T 176 (e_L 176 (0, ei_goto 180, 0, 0)) (e_L 179 (0, ei_push (0, 0) 180, 0, 0))))) (e_T 185 (e_T 181 (e_T 180 (e_L 180 (0, ei_stor 3 0 181, 0, 0)) (e_L 181 (0, ei_load 0 2 182, 0, 0))) (e_T 182 (e_L 182 (0, ei_getf eft elay 12 66 185, 0, 0)) (e_L 185 (0, ei_push (0, 40000) 188, 0, 0)))) (e_T 189 (e_T 188 (e_L 188 (0, ei_load 0 2 189, 0, 0)) (e_L 189 (0, ei_getf eft elay 12 93 192, 0, 0))) (e_T 192 (e_L 192 (0, ei_load 1 0 193, 0, 0)) (e_L 193 (0, ei_ald elay false 194, 0, 0)))))) (e_T 204 (e_T 198 (e_T 195 (e_T 194 (e_L 194 (0, ei_bin eF_add 195, 0, 0)) (e_L 195 (0, ei_load 4 0 197, 0, 0))) (e_T 197 (e_L 197 (0, ei_ast elay false 198, 0, 0)) (e_L 198 (0, ei_load 3 0 199, 0, 0)))) (e_T 202 (e_T 199 (e_L 199 (0, ei_if1 0 217 202, 0, 0)) (e_L 202 (0, ei_load 0 2 203, 0, 0))) (e_T 203 (e_L 203 (0, ei_load 3 0 204, 0, 0)) (e_L 204 (0, ei_putf eft elay 12 88 0 207, 0, 0))))) (e_T 212 (e_T 208 (e_T 207 (e_L 207 (0, ei_load 0 2 208, 0, 0)) (e_L 208 (0, ei_load 0 2 209, 0, 0))) (e_T 209 (e_L 209 (0, ei_getf eft elay 12 91 212, 0, 0)) (e_L 212 (0, ei_load 1 0 213, 0, 0)))) (e_T 214 (e_T 213 (e_L 213 (0, ei_ald elay false 214, 0, 0)) (e_L 214 (0, ei_putf eft elay 12 89 0 217, 0, 0))) (e_T 217 (e_L 217 (0, ei_inc 1 1 220, 0, 0)) (e_T 220 (e_L 220 (0, ei_goto 2, 0, 0)) (e_L 223 (1, e_nof, 0, 0))))))))
set_option maxRecDepth 20000 in
set_option maxHeartbeats 4000000 in
theorem te_356_99_ok : ∀ pc, e_EOq eft cls elay eI n_356 pc (te_356_99 pc) :=
  (e_Tok2
  (e_Tok2
  (e_Tok2
  (e_Tok2
  (e_Tok2
  (e_Lok (lk_12_552g ho_356 (x_dk dn_356_0_3_ok 24 rfl)))
  (e_Lok (lk_12_635 ho_356 (x_dk dn_356_1_0_ok 0 rfl))))
  (e_Tok2
  (e_Lok (e_st (I := eI) (er_istore (i := 4) (x_dk dn_356_1_0_ok 1 rfl) (by decide +kernel)) nx_stor))
  (e_Lok (ld_iload_4 (x_dk dn_356_1_0_ok 2 rfl)))))
  (e_Tok2
  (e_Tok2
  (e_Lok (e_st (I := eI) (er_ifge (off := 7) (tg := 179) (x_dk dn_356_1_0_ok 3 rfl) (by decide)) nx_if1))
  (e_Lok (ps_iconst_5 (x_dk dn_356_1_0_ok 4 rfl))))
  (e_Tok2
  (e_Lok (e_st (I := eI) (er_goto (off := 4) (tg := 180) (x_dk dn_356_1_0_ok 5 rfl) (by decide)) nx_goto))
  (e_Lok (ps_iconst_0 (x_dk dn_356_1_0_ok 6 rfl))))))
  (e_Tok2
  (e_Tok2
  (e_Tok2
  (e_Lok (e_st (I := eI) (er_istore_n (i := 3) (x_dk dn_356_1_0_ok 7 rfl) (by decide +kernel)) nx_stor))
  (e_Lok (ld_aload_n_0 (x_dk dn_356_1_0_ok 8 rfl))))
  (e_Tok2
  (e_Lok (lk_12_174g ho_356 (x_dk dn_356_1_0_ok 9 rfl)))
  (e_Lok (e_st (I := eI) (er_ldcw (ix := 545) (z := 40000) (v := 40000) (x_dk dn_356_1_0_ok 10 rfl) (in_t12 (List.mem_of_getElem? (i := 40) rfl) rfl) (by decide)) (nx_push (Or.inl rfl))))))
  (e_Tok2
  (e_Tok2
  (e_Lok (ld_aload_n_0 (x_dk dn_356_1_0_ok 11 rfl)))
  (e_Lok (lk_12_219g ho_356 (x_dk dn_356_1_0_ok 12 rfl))))
  (e_Tok2
  (e_Lok (ld_iload_n_1 (x_dk dn_356_1_0_ok 13 rfl)))
  (e_Lok (sm_iaload (x_dk dn_356_1_0_ok 14 rfl)))))))
  (e_Tok2
  (e_Tok2
  (e_Tok2
  (e_Tok2
  (e_Lok (sm_iadd (x_dk dn_356_1_0_ok 15 rfl)))
  (e_Lok (ld_iload_4 (x_dk dn_356_1_0_ok 16 rfl))))
  (e_Tok2
  (e_Lok (sm_iastore (x_dk dn_356_1_0_ok 17 rfl)))
  (e_Lok (ld_iload_n_3 (x_dk dn_356_1_0_ok 18 rfl)))))
  (e_Tok2
  (e_Tok2
  (e_Lok (e_st (I := eI) (er_ifeq (off := 18) (tg := 217) (x_dk dn_356_1_0_ok 19 rfl) (by decide)) nx_if1))
  (e_Lok (ld_aload_n_0 (x_dk dn_356_1_0_ok 20 rfl))))
  (e_Tok2
  (e_Lok (ld_iload_n_3 (x_dk dn_356_1_0_ok 21 rfl)))
  (e_Lok (lk_12_530p ho_356 (x_dk dn_356_1_0_ok 22 rfl))))))
  (e_Tok2
  (e_Tok2
  (e_Tok2
  (e_Lok (ld_aload_n_0 (x_dk dn_356_1_0_ok 23 rfl)))
  (e_Lok (ld_aload_n_0 (x_dk dn_356_1_0_ok 24 rfl))))
  (e_Tok2
  (e_Lok (lk_12_213g ho_356 (x_dk dn_356_1_1_ok 0 rfl)))
  (e_Lok (ld_iload_n_1 (x_dk dn_356_1_1_ok 1 rfl)))))
  (e_Tok2
  (e_Tok2
  (e_Lok (sm_iaload (x_dk dn_356_1_1_ok 2 rfl)))
  (e_Lok (lk_12_533p ho_356 (x_dk dn_356_1_1_ok 3 rfl))))
  (e_Tok2
  (e_Lok (e_st (I := eI) (er_iinc (i := 1) (n := 1) (x_dk dn_356_1_1_ok 4 rfl) (by decide +kernel) (by decide)) nx_inc))
  (e_Tok2
  (e_Lok (e_st (I := eI) (er_goto (off := (-218)) (tg := 2) (x_dk dn_356_1_1_ok 5 rfl) (by decide)) nx_goto))
  (e_Lok (e_rt (I := eI) (k := 0) ⟨(x_dk dn_356_1_1_ok 6 rfl), rfl⟩))))))))
def te_356 : Nat → eE := (e_T 111 (e_T 52 te_356_0 te_356_33) (e_T 161 te_356_66 te_356_99))
theorem te_356_ok : ∀ pc, e_EOq eft cls elay eI n_356 pc (te_356 pc) := (e_Tok2 ((e_Tok2 (te_356_0_ok) (te_356_33_ok))) ((e_Tok2 (te_356_66_ok) (te_356_99_ok))))
end
end
-- part 41ba
section
noncomputable section
theorem ho_357 : (xm_y n_357).cls = "RobotCellHouseModel" := rfl
def dn_357_0_0 : List (Nat × Instr × Nat) := [(0, .aload_n 0, 1), (1, .iload_n 1, 1), (2, .invokevirtual 305, 3), (5, .ifCond .ne 5, 3), (8, .iconst (-1), 1), (9, .ireturn, 1), (10, .aload_n 0, 1), (11, .getfield 265, 3), (14, .ifCond .eq 6, 3), (17, .bipush (-2), 2), (19, .ireturn, 1), (20, .aload_n 0, 1), (21, .iconst 1, 1), (22, .putfield 639, 3), (25, .aload_n 0, 1), (26, .iconst 0, 1), (27, .putfield 530, 3), (30, .aload_n 0, 1), (31, .iconst (-1), 1), (32, .putfield 533, 3), (35, .aload_n 0, 1), (36, .iconst 0, 1), (37, .putfield 546, 3), (40, .aload_n 0, 1), (41, .iconst 0, 1)]
set_option maxRecDepth 20000 in
theorem dn_357_0_0_ok : dn_357_0_0.all (fun q => decide (decode (xm_b n_357) q.1 = .ok (q.2.1, q.2.2))) = true := xa_g_ok (by decide +kernel)
def dn_357_0_1 : List (Nat × Instr × Nat) := [(42, .putfield 629, 3), (45, .aload_n 0, 1), (46, .iconst 0, 1), (47, .putfield 626, 3), (50, .aload_n 0, 1), (51, .iconst (-1), 1), (52, .putfield 549, 3), (55, .aload_n 0, 1), (56, .iconst (-1), 1), (57, .putfield 620, 3), (60, .aload_n 0, 1), (61, .iconst 0, 1), (62, .putfield 542, 3), (65, .aload_n 0, 1), (66, .iconst 0, 1), (67, .putfield 552, 3), (70, .aload_n 0, 1), (71, .getfield 204, 3), (74, .iconst 4, 1), (75, .iconst 0, 1), (76, .iastore, 1), (77, .aload_n 0, 1), (78, .getfield 201, 3), (81, .iconst 4, 1), (82, .iconst 0, 1)]
set_option maxRecDepth 20000 in
theorem dn_357_0_1_ok : dn_357_0_1.all (fun q => decide (decode (xm_b n_357) q.1 = .ok (q.2.1, q.2.2))) = true := xa_g_ok (by decide +kernel)
def dn_357_0_2 : List (Nat × Instr × Nat) := [(83, .iastore, 1), (84, .aload_n 0, 1), (85, .iconst 0, 1), (86, .putfield 485, 3), (89, .aload_n 0, 1), (90, .invokevirtual 536, 3), (93, .aload_n 0, 1), (94, .invokevirtual 642, 3), (97, .aload_n 0, 1), (98, .invokevirtual 645, 3), (101, .aload_n 0, 1), (102, .iconst 0, 1), (103, .putfield 317, 3), (106, .aload_n 0, 1), (107, .getfield 530, 3), (110, .ifCond .eq 11, 3), (113, .bipush (-10), 2), (115, .aload_n 0, 1), (116, .getfield 533, 3), (119, .isub, 1), (120, .ireturn, 1), (121, .iconst 0, 1), (122, .istore_n 2, 1), (123, .iload_n 2, 1), (124, .aload_n 0, 1)]
set_option maxRecDepth 20000 in
theorem dn_357_0_2_ok : dn_357_0_2.all (fun q => decide (decode (xm_b n_357) q.1 = .ok (q.2.1, q.2.2))) = true := xa_g_ok (by decide +kernel)
def dn_357_0_3 : List (Nat × Instr × Nat) := [(125, .getfield 546, 3), (128, .if_icmp .ge 75, 3), (131, .aload_n 0, 1), (132, .getfield 171, 3), (135, .sipush 10000, 3), (138, .iload_n 1, 1), (139, .imul, 1), (140, .iload_n 2, 1), (141, .iadd, 1), (142, .aload_n 0, 1), (143, .getfield 171, 3), (146, .ldc_w 545, 3), (149, .iload_n 2, 1), (150, .iadd, 1), (151, .iaload, 1), (152, .iastore, 1), (153, .aload_n 0, 1), (154, .getfield 174, 3), (157, .sipush 10000, 3), (160, .iload_n 1, 1), (161, .imul, 1), (162, .iload_n 2, 1), (163, .iadd, 1), (164, .aload_n 0, 1), (165, .getfield 174, 3)]
set_option maxRecDepth 20000 in
theorem dn_357_0_3_ok : dn_357_0_3.all (fun q => decide (decode (xm_b n_357) q.1 = .ok (q.2.1, q.2.2))) = true := xa_g_ok (by decide +kernel)
def dn_357_1_0 : List (Nat × Instr × Nat) := [(168, .ldc_w 545, 3), (171, .iload_n 2, 1), (172, .iadd, 1), (173, .iaload, 1), (174, .iastore, 1), (175, .aload_n 0, 1), (176, .getfield 177, 3), (179, .sipush 10000, 3), (182, .iload_n 1, 1), (183, .imul, 1), (184, .iload_n 2, 1), (185, .iadd, 1), (186, .aload_n 0, 1), (187, .getfield 177, 3), (190, .ldc_w 545, 3), (193, .iload_n 2, 1), (194, .iadd, 1), (195, .iaload, 1), (196, .iastore, 1), (197, .iinc 2 1, 3), (200, .goto (-77), 3), (203, .iconst 0, 1), (204, .istore_n 2, 1), (205, .iload_n 2, 1), (206, .sipush 900, 3)]
set_option maxRecDepth 20000 in
theorem dn_357_1_0_ok : dn_357_1_0.all (fun q => decide (decode (xm_b n_357) q.1 = .ok (q.2.1, q.2.2))) = true := xa_g_ok (by decide +kernel)
def dn_357_1_1 : List (Nat × Instr × Nat) := [(209, .if_icmp .ge 141, 3), (212, .aload_n 0, 1), (213, .getfield 180, 3), (216, .sipush 900, 3), (219, .iload_n 1, 1), (220, .imul, 1), (221, .iload_n 2, 1), (222, .iadd, 1), (223, .aload_n 0, 1), (224, .getfield 180, 3), (227, .sipush 3600, 3), (230, .iload_n 2, 1), (231, .iadd, 1), (232, .iaload, 1), (233, .iastore, 1), (234, .aload_n 0, 1), (235, .getfield 183, 3), (238, .sipush 900, 3), (241, .iload_n 1, 1), (242, .imul, 1), (243, .iload_n 2, 1), (244, .iadd, 1), (245, .aload_n 0, 1), (246, .getfield 183, 3), (249, .sipush 3600, 3)]
set_option maxRecDepth 20000 in
theorem dn_357_1_1_ok : dn_357_1_1.all (fun q => decide (decode (xm_b n_357) q.1 = .ok (q.2.1, q.2.2))) = true := xa_g_ok (by decide +kernel)
def dn_357_1_2 : List (Nat × Instr × Nat) := [(252, .iload_n 2, 1), (253, .iadd, 1), (254, .iaload, 1), (255, .iastore, 1), (256, .aload_n 0, 1), (257, .getfield 186, 3), (260, .sipush 900, 3), (263, .iload_n 1, 1), (264, .imul, 1), (265, .iload_n 2, 1), (266, .iadd, 1), (267, .aload_n 0, 1), (268, .getfield 186, 3), (271, .sipush 3600, 3), (274, .iload_n 2, 1), (275, .iadd, 1), (276, .iaload, 1), (277, .iastore, 1), (278, .aload_n 0, 1), (279, .getfield 189, 3), (282, .sipush 900, 3), (285, .iload_n 1, 1), (286, .imul, 1), (287, .iload_n 2, 1), (288, .iadd, 1)]
set_option maxRecDepth 20000 in
theorem dn_357_1_2_ok : dn_357_1_2.all (fun q => decide (decode (xm_b n_357) q.1 = .ok (q.2.1, q.2.2))) = true := xa_g_ok (by decide +kernel)
def dn_357_1_3 : List (Nat × Instr × Nat) := [(289, .aload_n 0, 1), (290, .getfield 189, 3), (293, .sipush 3600, 3), (296, .iload_n 2, 1), (297, .iadd, 1), (298, .iaload, 1), (299, .iastore, 1), (300, .aload_n 0, 1), (301, .getfield 192, 3), (304, .sipush 900, 3), (307, .iload_n 1, 1), (308, .imul, 1), (309, .iload_n 2, 1), (310, .iadd, 1), (311, .aload_n 0, 1), (312, .getfield 192, 3), (315, .sipush 3600, 3), (318, .iload_n 2, 1), (319, .iadd, 1), (320, .iaload, 1), (321, .iastore, 1), (322, .aload_n 0, 1), (323, .getfield 195, 3), (326, .sipush 900, 3), (329, .iload_n 1, 1)]
set_option maxRecDepth 20000 in
theorem dn_357_1_3_ok : dn_357_1_3.all (fun q => decide (decode (xm_b n_357) q.1 = .ok (q.2.1, q.2.2))) = true := xa_g_ok (by decide +kernel)
def dn_357_2_0 : List (Nat × Instr × Nat) := [(330, .imul, 1), (331, .iload_n 2, 1), (332, .iadd, 1), (333, .aload_n 0, 1), (334, .getfield 195, 3), (337, .sipush 3600, 3), (340, .iload_n 2, 1), (341, .iadd, 1), (342, .iaload, 1), (343, .iastore, 1), (344, .iinc 2 1, 3), (347, .goto (-142), 3), (350, .iconst 0, 1), (351, .istore_n 2, 1), (352, .iload_n 2, 1), (353, .bipush 32, 2), (355, .if_icmp .ge 46, 3), (358, .aload_n 0, 1), (359, .getfield 198, 3), (362, .bipush 32, 2), (364, .iload_n 1, 1), (365, .imul, 1), (366, .iload_n 2, 1), (367, .iadd, 1), (368, .aload_n 0, 1)]
set_option maxRecDepth 20000 in
theorem dn_357_2_0_ok : dn_357_2_0.all (fun q => decide (decode (xm_b n_357) q.1 = .ok (q.2.1, q.2.2))) = true := xa_g_ok (by decide +kernel)
def dn_357_2_1 : List (Nat × Instr × Nat) := [(369, .getfield 198, 3), (372, .sipush 128, 3), (375, .iload_n 2, 1), (376, .iadd, 1), (377, .iaload, 1), (378, .iastore, 1), (379, .aload_n 0, 1), (380, .getfield 8, 3), (383, .sipush 20932, 3), (386, .bipush 32, 2), (388, .iload_n 1, 1), (389, .imul, 1), (390, .iadd, 1), (391, .iload_n 2, 1), (392, .iadd, 1), (393, .iconst 0, 1), (394, .iastore, 1), (395, .iinc 2 1, 3), (398, .goto (-46), 3), (401, .aload_n 0, 1), (402, .getfield 201, 3), (405, .iload_n 1, 1), (406, .aload_n 0, 1), (407, .getfield 201, 3), (410, .iconst 4, 1)]
set_option maxRecDepth 20000 in
theorem dn_357_2_1_ok : dn_357_2_1.all (fun q => decide (decode (xm_b n_357) q.1 = .ok (q.2.1, q.2.2))) = true := xa_g_ok (by decide +kernel)
def dn_357_2_2 : List (Nat × Instr × Nat) := [(411, .iaload, 1), (412, .iastore, 1), (413, .aload_n 0, 1), (414, .getfield 204, 3), (417, .iload_n 1, 1), (418, .aload_n 0, 1), (419, .getfield 204, 3), (422, .iconst 4, 1), (423, .iaload, 1), (424, .iastore, 1), (425, .aload_n 0, 1), (426, .getfield 207, 3), (429, .iload_n 1, 1), (430, .iconst 1, 1), (431, .bastore, 1), (432, .aload_n 0, 1), (433, .getfield 201, 3), (436, .iload_n 1, 1), (437, .iaload, 1), (438, .ireturn, 1)]
set_option maxRecDepth 20000 in
theorem dn_357_2_2_ok : dn_357_2_2.all (fun q => decide (decode (xm_b n_357) q.1 = .ok (q.2.1, q.2.2))) = true := xa_g_ok (by decide +kernel)
def te_357_0 : Nat → eE := (e_T 26 (e_T 11 (e_T 5 (e_T 1 (e_T 0 (e_L 0 (0, ei_load 0 2 1, 0, 0)) (e_L 1 (0, ei_load 1 0 2, 0, 0))) (e_T 2 (e_L 2 (2, e_nof, 270, 2)) (e_L 5 (0, ei_if1 1 10 8, 0, 0)))) (e_T 9 (e_T 8 (e_L 8 (0, ei_push (0, (-1)) 9, 0, 0)) (e_L 9 (1, e_nof, 1, 0))) (e_T 10 (e_L 10 (0, ei_load 0 2 11, 0, 0)) (e_L 11 (0, ei_getf eft elay 12 3 14, 0, 0))))) (e_T 20 (e_T 17 (e_T 14 (e_L 14 (0, ei_if1 0 20 17, 0, 0)) (e_L 17 (0, ei_push (0, (-2)) 19, 0, 0))) (e_T 19 (e_L 19 (1, e_nof, 1, 0)) (e_L 20 (0, ei_load 0 2 21, 0, 0)))) (e_T 22 (e_T 21 (e_L 21 (0, ei_push (0, 1) 22, 0, 0)) (e_L 22 (0, ei_putf eft elay 12 95 1 25, 0, 0))) (e_T 25 (e_L 25 (0, ei_load 0 2 26, 0, 0)) (e_L 26 (0, ei_push (0, 0) 27, 0, 0)))))) (e_T 40 (e_T 32 (e_T 30 (e_T 27 (e_L 27 (0, ei_putf eft elay 12 88 0 30, 0, 0)) (e_L 30 (0, ei_load 0 2 31, 0, 0))) (e_T 31 (e_L 31 (0, ei_push (0, (-1)) 32, 0, 0)) (e_L 32 (0, ei_putf eft elay 12 89 0 35, 0, 0)))) (e_T 36 (e_T 35 (e_L 35 (0, ei_load 0 2 36, 0, 0)) (e_L 36 (0, ei_push (0, 0) 37, 0, 0))) (e_T 37 (e_L 37 (0, ei_putf eft elay 12 78 0 40, 0, 0)) (e_L 40 (0, ei_load 0 2 41, 0, 0))))) (e_T 46 (e_T 42 (e_T 41 (e_L 41 (0, ei_push (0, 0) 42, 0, 0)) (e_L 42 (0, ei_putf eft elay 12 79 0 45, 0, 0))) (e_T 45 (e_L 45 (0, ei_load 0 2 46, 0, 0)) (e_L 46 (0, ei_push (0, 0) 47, 0, 0)))) (e_T 50 (e_T 47 (e_L 47 (0, ei_putf eft elay 12 80 0 50, 0, 0)) (e_L 50 (0, ei_load 0 2 51, 0, 0))) (e_T 51 (e_L 51 (0, ei_push (0, (-1)) 52, 0, 0)) (e_T 52 (e_L 52 (0, ei_putf eft elay 12 81 0 55, 0, 0)) (e_L 55 (0, ei_load 0 2 56, 0, 0))))))))
set_option maxRecDepth 20000 in
set_option maxHeartbeats 4000000 in
theorem te_357_0_ok : ∀ pc, e_EOq eft cls elay eI n_357 pc (te_357_0 pc) :=
  (e_Tok2
  (e_Tok2
  (e_Tok2
  (e_Tok2
  (e_Tok2
  (e_Lok (ld_aload_n_0 (x_dk dn_357_0_0_ok 0 rfl)))
  (e_Lok (ld_iload_n_1 (x_dk dn_357_0_0_ok 1 rfl))))
  (e_Tok2
  (e_Lok (lk_12_305 ho_357 (x_dk dn_357_0_0_ok 2 rfl)))
  (e_Lok (e_st (I := eI) (er_ifne (off := 5) (tg := 10) (x_dk dn_357_0_0_ok 3 rfl) (by decide)) nx_if1))))
  (e_Tok2
  (e_Tok2
  (e_Lok (ps_iconst_m1 (x_dk dn_357_0_0_ok 4 rfl)))
  (e_Lok (e_rt (I := eI) (k := 1) ⟨(x_dk dn_357_0_0_ok 5 rfl), rfl⟩)))
  (e_Tok2
  (e_Lok (ld_aload_n_0 (x_dk dn_357_0_0_ok 6 rfl)))
  (e_Lok (lk_12_265g ho_357 (x_dk dn_357_0_0_ok 7 rfl))))))
  (e_Tok2
  (e_Tok2
  (e_Tok2
  (e_Lok (e_st (I := eI) (er_ifeq (off := 6) (tg := 20) (x_dk dn_357_0_0_ok 8 rfl) (by decide)) nx_if1))
  (e_Lok (ps_bipush_m2 (x_dk dn_357_0_0_ok 9 rfl))))
  (e_Tok2
  (e_Lok (e_rt (I := eI) (k := 1) ⟨(x_dk dn_357_0_0_ok 10 rfl), rfl⟩))
  (e_Lok (ld_aload_n_0 (x_dk dn_357_0_0_ok 11 rfl)))))
  (e_Tok2
  (e_Tok2
  (e_Lok (ps_iconst_1 (x_dk dn_357_0_0_ok 12 rfl)))
  (e_Lok (lk_12_639p ho_357 (x_dk dn_357_0_0_ok 13 rfl))))
  (e_Tok2
  (e_Lok (ld_aload_n_0 (x_dk dn_357_0_0_ok 14 rfl)))
  (e_Lok (ps_iconst_0 (x_dk dn_357_0_0_ok 15 rfl)))))))
  (e_Tok2
  (e_Tok2
  (e_Tok2
  (e_Tok2
  (e_Lok (lk_12_530p ho_357 (x_dk dn_357_0_0_ok 16 rfl)))
  (e_Lok (ld_aload_n_0 (x_dk dn_357_0_0_ok 17 rfl))))
  (e_Tok2
  (e_Lok (ps_iconst_m1 (x_dk dn_357_0_0_ok 18 rfl)))
  (e_Lok (lk_12_533p ho_357 (x_dk dn_357_0_0_ok 19 rfl)))))
  (e_Tok2
  (e_Tok2
  (e_Lok (ld_aload_n_0 (x_dk dn_357_0_0_ok 20 rfl)))
  (e_Lok (ps_iconst_0 (x_dk dn_357_0_0_ok 21 rfl))))
  (e_Tok2
  (e_Lok (lk_12_546p ho_357 (x_dk dn_357_0_0_ok 22 rfl)))
  (e_Lok (ld_aload_n_0 (x_dk dn_357_0_0_ok 23 rfl))))))
  (e_Tok2
  (e_Tok2
  (e_Tok2
  (e_Lok (ps_iconst_0 (x_dk dn_357_0_0_ok 24 rfl)))
  (e_Lok (lk_12_629p ho_357 (x_dk dn_357_0_1_ok 0 rfl))))
  (e_Tok2
  (e_Lok (ld_aload_n_0 (x_dk dn_357_0_1_ok 1 rfl)))
  (e_Lok (ps_iconst_0 (x_dk dn_357_0_1_ok 2 rfl)))))
  (e_Tok2
  (e_Tok2
  (e_Lok (lk_12_626p ho_357 (x_dk dn_357_0_1_ok 3 rfl)))
  (e_Lok (ld_aload_n_0 (x_dk dn_357_0_1_ok 4 rfl))))
  (e_Tok2
  (e_Lok (ps_iconst_m1 (x_dk dn_357_0_1_ok 5 rfl)))
  (e_Tok2
  (e_Lok (lk_12_549p ho_357 (x_dk dn_357_0_1_ok 6 rfl)))
  (e_Lok (ld_aload_n_0 (x_dk dn_357_0_1_ok 7 rfl)))))))))
def te_357_33 : Nat → eE := (e_T 82 (e_T 67 (e_T 61 (e_T 57 (e_T 56 (e_L 56 (0, ei_push (0, (-1)) 57, 0, 0)) (e_L 57 (0, ei_putf eft elay 12 82 0 60, 0, 0))) (e_T 60 (e_L 60 (0, ei_load 0 2 61, 0, 0)) (e_L 61 (0, ei_push (0, 0) 62, 0, 0)))) (e_T 65 (e_T 62 (e_L 62 (0, ei_putf eft elay 12 83 0 65, 0, 0)) (e_L 65 (0, ei_load 0 2 66, 0, 0))) (e_T 66 (e_L 66 (0, ei_push (0, 0) 67, 0, 0)) (e_L 67 (0, ei_putf eft elay 12 94 0 70, 0, 0))))) (e_T 75 (e_T 71 (e_T 70 (e_L 70 (0, ei_load 0 2 71, 0, 0)) (e_L 71 (0, ei_getf eft elay 12 76 74, 0, 0))) (e_T 74 (e_L 74 (0, ei_push (0, 4) 75, 0, 0)) (e_L 75 (0, ei_push (0, 0) 76, 0, 0)))) (e_T 77 (e_T 76 (e_L 76 (0, ei_ast elay false 77, 0, 0)) (e_L 77 (0, ei_load 0 2 78, 0, 0))) (e_T 78 (e_L 78 (0, ei_getf eft elay 12 75 81, 0, 0)) (e_T 81 (e_L 81 (0, ei_push (0, 4) 82, 0, 0)) (e_L 82 (0, ei_push (0, 0) 83, 0, 0))))))) (e_T 94 (e_T 86 (e_T 84 (e_T 83 (e_L 83 (0, ei_ast elay false 84, 0, 0)) (e_L 84 (0, ei_load 0 2 85, 0, 0))) (e_T 85 (e_L 85 (0, ei_push (0, 0) 86, 0, 0)) (e_L 86 (0, ei_putf eft elay 12 87 0 89, 0, 0)))) (e_T 90 (e_T 89 (e_L 89 (0, ei_load 0 2 90, 0, 0)) (e_L 90 (2, e_nof, 327, 1))) (e_T 93 (e_L 93 (0, ei_load 0 2 94, 0, 0)) (e_L 94 (2, e_nof, 353, 1))))) (e_T 102 (e_T 98 (e_T 97 (e_L 97 (0, ei_load 0 2 98, 0, 0)) (e_L 98 (2, e_nof, 356, 1))) (e_T 101 (e_L 101 (0, ei_load 0 2 102, 0, 0)) (e_L 102 (0, ei_push (0, 0) 103, 0, 0)))) (e_T 106 (e_T 103 (e_L 103 (0, ei_putf eft elay 12 9 0 106, 0, 0)) (e_L 106 (0, ei_load 0 2 107, 0, 0))) (e_T 107 (e_L 107 (0, ei_getf eft elay 12 88 110, 0, 0)) (e_T 110 (e_L 110 (0, ei_if1 0 121 113, 0, 0)) (e_L 113 (0, ei_push (0, (-10)) 115, 0, 0))))))))
set_option maxRecDepth 20000 in
set_option maxHeartbeats 4000000 in
theorem te_357_33_ok : ∀ pc, e_EOq eft cls elay eI n_357 pc (te_357_33 pc) :=
  (e_Tok2
  (e_Tok2
  (e_Tok2
  (e_Tok2
  (e_Tok2
  (e_Lok (ps_iconst_m1 (x_dk dn_357_0_1_ok 8 rfl)))
  (e_Lok (lk_12_620p ho_357 (x_dk dn_357_0_1_ok 9 rfl))))
  (e_Tok2
  (e_Lok (ld_aload_n_0 (x_dk dn_357_0_1_ok 10 rfl)))
  (e_Lok (ps_iconst_0 (x_dk dn_357_0_1_ok 11 rfl)))))
  (e_Tok2
  (e_Tok2
  (e_Lok (lk_12_542p ho_357 (x_dk dn_357_0_1_ok 12 rfl)))
  (e_Lok (ld_aload_n_0 (x_dk dn_357_0_1_ok 13 rfl))))
  (e_Tok2
  (e_Lok (ps_iconst_0 (x_dk dn_357_0_1_ok 14 rfl)))
  (e_Lok (lk_12_552p ho_357 (x_dk dn_357_0_1_ok 15 rfl))))))
  (e_Tok2
  (e_Tok2
  (e_Tok2
  (e_Lok (ld_aload_n_0 (x_dk dn_357_0_1_ok 16 rfl)))
  (e_Lok (lk_12_204g ho_357 (x_dk dn_357_0_1_ok 17 rfl))))
  (e_Tok2
  (e_Lok (ps_iconst_4 (x_dk dn_357_0_1_ok 18 rfl)))
  (e_Lok (ps_iconst_0 (x_dk dn_357_0_1_ok 19 rfl)))))
  (e_Tok2
  (e_Tok2
  (e_Lok (sm_iastore (x_dk dn_357_0_1_ok 20 rfl)))
  (e_Lok (ld_aload_n_0 (x_dk dn_357_0_1_ok 21 rfl))))
  (e_Tok2
  (e_Lok (lk_12_201g ho_357 (x_dk dn_357_0_1_ok 22 rfl)))
  (e_Tok2
  (e_Lok (ps_iconst_4 (x_dk dn_357_0_1_ok 23 rfl)))
  (e_Lok (ps_iconst_0 (x_dk dn_357_0_1_ok 24 rfl))))))))
  (e_Tok2
  (e_Tok2
  (e_Tok2
  (e_Tok2
  (e_Lok (sm_iastore (x_dk dn_357_0_2_ok 0 rfl)))
  (e_Lok (ld_aload_n_0 (x_dk dn_357_0_2_ok 1 rfl))))
  (e_Tok2
  (e_Lok (ps_iconst_0 (x_dk dn_357_0_2_ok 2 rfl)))
  (e_Lok (lk_12_485p ho_357 (x_dk dn_357_0_2_ok 3 rfl)))))
  (e_Tok2
  (e_Tok2
  (e_Lok (ld_aload_n_0 (x_dk dn_357_0_2_ok 4 rfl)))
  (e_Lok (lk_12_536 ho_357 (x_dk dn_357_0_2_ok 5 rfl))))
  (e_Tok2
  (e_Lok (ld_aload_n_0 (x_dk dn_357_0_2_ok 6 rfl)))
  (e_Lok (lk_12_642 ho_357 (x_dk dn_357_0_2_ok 7 rfl))))))
  (e_Tok2
  (e_Tok2
  (e_Tok2
  (e_Lok (ld_aload_n_0 (x_dk dn_357_0_2_ok 8 rfl)))
  (e_Lok (lk_12_645 ho_357 (x_dk dn_357_0_2_ok 9 rfl))))
  (e_Tok2
  (e_Lok (ld_aload_n_0 (x_dk dn_357_0_2_ok 10 rfl)))
  (e_Lok (ps_iconst_0 (x_dk dn_357_0_2_ok 11 rfl)))))
  (e_Tok2
  (e_Tok2
  (e_Lok (lk_12_317p ho_357 (x_dk dn_357_0_2_ok 12 rfl)))
  (e_Lok (ld_aload_n_0 (x_dk dn_357_0_2_ok 13 rfl))))
  (e_Tok2
  (e_Lok (lk_12_530g ho_357 (x_dk dn_357_0_2_ok 14 rfl)))
  (e_Tok2
  (e_Lok (e_st (I := eI) (er_ifeq (off := 11) (tg := 121) (x_dk dn_357_0_2_ok 15 rfl) (by decide)) nx_if1))
  (e_Lok (ps_bipush_m10 (x_dk dn_357_0_2_ok 16 rfl)))))))))
def te_357_67 : Nat → eE := (e_T 141 (e_T 124 (e_T 120 (e_T 116 (e_T 115 (e_L 115 (0, ei_load 0 2 116, 0, 0)) (e_L 116 (0, ei_getf eft elay 12 89 119, 0, 0))) (e_T 119 (e_L 119 (0, ei_bin eF_sub 120, 0, 0)) (e_L 120 (1, e_nof, 1, 0)))) (e_T 122 (e_T 121 (e_L 121 (0, ei_push (0, 0) 122, 0, 0)) (e_L 122 (0, ei_stor 2 0 123, 0, 0))) (e_T 123 (e_L 123 (0, ei_load 2 0 124, 0, 0)) (e_L 124 (0, ei_load 0 2 125, 0, 0))))) (e_T 132 (e_T 128 (e_T 125 (e_L 125 (0, ei_getf eft elay 12 78 128, 0, 0)) (e_L 128 (0, ei_if2 3 203 131, 0, 0))) (e_T 131 (e_L 131 (0, ei_load 0 2 132, 0, 0)) (e_L 132 (0, ei_getf eft elay 12 65 135, 0, 0)))) (e_T 138 (e_T 135 (e_L 135 (0, ei_push (0, 10000) 138, 0, 0)) (e_L 138 (0, ei_load 1 0 139, 0, 0))) (e_T 139 (e_L 139 (0, ei_bin eF_mul 140, 0, 0)) (e_T 140 (e_L 140 (0, ei_load 2 0 141, 0, 0)) (e_L 141 (0, ei_bin eF_add 142, 0, 0))))))) (e_T 153 (e_T 149 (e_T 143 (e_T 142 (e_L 142 (0, ei_load 0 2 143, 0, 0)) (e_L 143 (0, ei_getf eft elay 12 65 146, 0, 0))) (e_T 146 (e_L 146 (0, ei_push (0, 40000) 149, 0, 0)) (e_L 149 (0, ei_load 2 0 150, 0, 0)))) (e_T 151 (e_T 150 (e_L 150 (0, ei_bin eF_add 151, 0, 0)) (e_L 151 (0, ei_ald elay false 152, 0, 0))) (e_T 152 (e_L 152 (0, ei_ast elay false 153, 0, 0)) (e_L 153 (0, ei_load 0 2 154, 0, 0))))) (e_T 161 (e_T 157 (e_T 154 (e_L 154 (0, ei_getf eft elay 12 66 157, 0, 0)) (e_L 157 (0, ei_push (0, 10000) 160, 0, 0))) (e_T 160 (e_L 160 (0, ei_load 1 0 161, 0, 0)) (e_L 161 (0, ei_bin eF_mul 162, 0, 0)))) (e_T 163 (e_T 162 (e_L 162 (0, ei_load 2 0 163, 0, 0)) (e_L 163 (0, ei_bin eF_add 164, 0, 0))) (e_T 164 (e_L 164 (0, ei_load 0 2 165, 0, 0)) (e_T 165 (e_L 165 (0, ei_getf eft elay 12 66 168, 0, 0)) (e_L 168 (0, ei_push (0, 40000) 171, 0, 0))))))))
set_option maxRecDepth 20000 in
set_option maxHeartbeats 4000000 in
theorem te_357_67_ok : ∀ pc, e_EOq eft cls elay eI n_357 pc (te_357_67 pc) :=
  (e_Tok2
  (e_Tok2
  (e_Tok2
  (e_Tok2
  (e_Tok2
  (e_Lok (ld_aload_n_0 (x_dk dn_357_0_2_ok 17 rfl)))
  (e_Lok (lk_12_533g ho_357 (x_dk dn_357_0_2_ok 18 rfl))))
  (e_Tok2
  (e_Lok (sm_isub (x_dk dn_357_0_2_ok 19 rfl)))
  (e_Lok (e_rt (I := eI) (k := 1) ⟨(x_dk dn_357_0_2_ok 20 rfl), rfl⟩))))
  (e_Tok2
  (e_Tok2
  (e_Lok (ps_iconst_0 (x_dk dn_357_0_2_ok 21 rfl)))
  (e_Lok (e_st (I := eI) (er_istore_n (i := 2) (x_dk dn_357_0_2_ok 22 rfl) (by decide +kernel)) nx_stor)))
  (e_Tok2
  (e_Lok (ld_iload_n_2 (x_dk dn_357_0_2_ok 23 rfl)))
  (e_Lok (ld_aload_n_0 (x_dk dn_357_0_2_ok 24 rfl))))))
  (e_Tok2
  (e_Tok2
  (e_Tok2
  (e_Lok (lk_12_546g ho_357 (x_dk dn_357_0_3_ok 0 rfl)))
  (e_Lok (e_st (I := eI) (er_icmpge (off := 75) (tg := 203) (x_dk dn_357_0_3_ok 1 rfl) (by decide)) nx_if2)))
  (e_Tok2
  (e_Lok (ld_aload_n_0 (x_dk dn_357_0_3_ok 2 rfl)))
  (e_Lok (lk_12_171g ho_357 (x_dk dn_357_0_3_ok 3 rfl)))))
  (e_Tok2
  (e_Tok2
  (e_Lok (ps_sipush_10000 (x_dk dn_357_0_3_ok 4 rfl)))
  (e_Lok (ld_iload_n_1 (x_dk dn_357_0_3_ok 5 rfl))))
  (e_Tok2
  (e_Lok (sm_imul (x_dk dn_357_0_3_ok 6 rfl)))
  (e_Tok2
  (e_Lok (ld_iload_n_2 (x_dk dn_357_0_3_ok 7 rfl)))
  (e_Lok (sm_iadd (x_dk dn_357_0_3_ok 8 rfl))))))))
  (e_Tok2
  (e_Tok2
  (e_Tok2
  (e_Tok2
  (e_Lok (ld_aload_n_0 (x_dk dn_357_0_3_ok 9 rfl)))
  (e_Lok (lk_12_171g ho_357 (x_dk dn_357_0_3_ok 10 rfl))))
  (e_Tok2
  (e_Lok (e_st (I := eI) (er_ldcw (ix := 545) (z := 40000) (v := 40000) (x_dk dn_357_0_3_ok 11 rfl) (in_t12 (List.mem_of_getElem? (i := 40) rfl) rfl) (by decide)) (nx_push (Or.inl rfl))))
  (e_Lok (ld_iload_n_2 (x_dk dn_357_0_3_ok 12 rfl)))))
  (e_Tok2
  (e_Tok2
  (e_Lok (sm_iadd (x_dk dn_357_0_3_ok 13 rfl)))
  (e_Lok (sm_iaload (x_dk dn_357_0_3_ok 14 rfl))))
  (e_Tok2
  (e_Lok (sm_iastore (x_dk dn_357_0_3_ok 15 rfl)))
  (e_Lok (ld_aload_n_0 (x_dk dn_357_0_3_ok 16 rfl))))))
  (e_Tok2
  (e_Tok2
  (e_Tok2
  (e_Lok (lk_12_174g ho_357 (x_dk dn_357_0_3_ok 17 rfl)))
  (e_Lok (ps_sipush_10000 (x_dk dn_357_0_3_ok 18 rfl))))
  (e_Tok2
  (e_Lok (ld_iload_n_1 (x_dk dn_357_0_3_ok 19 rfl)))
  (e_Lok (sm_imul (x_dk dn_357_0_3_ok 20 rfl)))))
  (e_Tok2
  (e_Tok2
  (e_Lok (ld_iload_n_2 (x_dk dn_357_0_3_ok 21 rfl)))
  (e_Lok (sm_iadd (x_dk dn_357_0_3_ok 22 rfl))))
  (e_Tok2
  (e_Lok (ld_aload_n_0 (x_dk dn_357_0_3_ok 23 rfl)))
  (e_Tok2
  (e_Lok (lk_12_174g ho_357 (x_dk dn_357_0_3_ok 24 rfl)))
  (e_Lok (e_st (I := eI) (er_ldcw (ix := 545) (z := 40000) (v := 40000) (x_dk dn_357_1_0_ok 0 rfl) (in_t12 (List.mem_of_getElem? (i := 40) rfl) rfl) (by decide)) (nx_push (Or.inl rfl))))))))))
def te_357_101 : Nat → eE := (e_T 195 (e_T 182 (e_T 174 (e_T 172 (e_T 171 (e_L 171 (0, ei_load 2 0 172, 0, 0)) (e_L 172 (0, ei_bin eF_add 173, 0, 0))) (e_T 173 (e_L 173 (0, ei_ald elay false 174, 0, 0)) (e_L 174 (0, ei_ast elay false 175, 0, 0)))) (e_T 176 (e_T 175 (e_L 175 (0, ei_load 0 2 176, 0, 0)) (e_L 176 (0, ei_getf eft elay 12 67 179, 0, 0))) (e_T 179 (e_L 179 (0, ei_push (0, 10000) 182, 0, 0)) (e_L 182 (0, ei_load 1 0 183, 0, 0))))) (e_T 186 (e_T 184 (e_T 183 (e_L 183 (0, ei_bin eF_mul 184, 0, 0)) (e_L 184 (0, ei_load 2 0 185, 0, 0))) (e_T 185 (e_L 185 (0, ei_bin eF_add 186, 0, 0)) (e_L 186 (0, ei_load 0 2 187, 0, 0)))) (e_T 190 (e_T 187 (e_L 187 (0, ei_getf eft elay 12 67 190, 0, 0)) (e_L 190 (0, ei_push (0, 40000) 193, 0, 0))) (e_T 193 (e_L 193 (0, ei_load 2 0 194, 0, 0)) (e_T 194 (e_L 194 (0, ei_bin eF_add 195, 0, 0)) (e_L 195 (0, ei_ald elay false 196, 0, 0))))))) (e_T 209 (e_T 203 (e_T 197 (e_T 196 (e_L 196 (0, ei_ast elay false 197, 0, 0)) (e_L 197 (0, ei_inc 2 1 200, 0, 0))) (e_T 200 (e_L 200 (0, ei_goto 123, 0, 0)) (e_L 203 (0, ei_push (0, 0) 204, 0, 0)))) (e_T 205 (e_T 204 (e_L 204 (0, ei_stor 2 0 205, 0, 0)) (e_L 205 (0, ei_load 2 0 206, 0, 0))) (e_T 206 (e_L 206 (0, ei_push (0, 900) 209, 0, 0)) (e_L 209 (0, ei_if2 3 350 212, 0, 0))))) (e_T 219 (e_T 213 (e_T 212 (e_L 212 (0, ei_load 0 2 213, 0, 0)) (e_L 213 (0, ei_getf eft elay 12 68 216, 0, 0))) (e_T 216 (e_L 216 (0, ei_push (0, 900) 219, 0, 0)) (e_L 219 (0, ei_load 1 0 220, 0, 0)))) (e_T 221 (e_T 220 (e_L 220 (0, ei_bin eF_mul 221, 0, 0)) (e_L 221 (0, ei_load 2 0 222, 0, 0))) (e_T 222 (e_L 222 (0, ei_bin eF_add 223, 0, 0)) (e_T 223 (e_L 223 (0, ei_load 0 2 224, 0, 0)) (e_L 224 (0, ei_getf eft elay 12 68 227, 0, 0))))))))
set_option maxRecDepth 20000 in
set_option maxHeartbeats 4000000 in
theorem te_357_101_ok : ∀ pc, e_EOq eft cls elay eI n_357 pc (te_357_101 pc) :=
  (e_Tok2
  (e_Tok2
  (e_Tok2
  (e_Tok2
  (e_Tok2
  (e_Lok (ld_iload_n_2 (x_dk dn_357_1_0_ok 1 rfl)))
  (e_Lok (sm_iadd (x_dk dn_357_1_0_ok 2 rfl))))
  (e_Tok2
  (e_Lok (sm_iaload (x_dk dn_357_1_0_ok 3 rfl)))
  (e_Lok (sm_iastore (x_dk dn_357_1_0_ok 4 rfl)))))
  (e_Tok2
  (e_Tok2
  (e_Lok (ld_aload_n_0 (x_dk dn_357_1_0_ok 5 rfl)))
  (e_Lok (lk_12_177g ho_357 (x_dk dn_357_1_0_ok 6 rfl))))
  (e_Tok2
  (e_Lok (ps_sipush_10000 (x_dk dn_357_1_0_ok 7 rfl)))
  (e_Lok (ld_iload_n_1 (x_dk dn_357_1_0_ok 8 rfl))))))
  (e_Tok2
  (e_Tok2
  (e_Tok2
  (e_Lok (sm_imul (x_dk dn_357_1_0_ok 9 rfl)))
  (e_Lok (ld_iload_n_2 (x_dk dn_357_1_0_ok 10 rfl))))
  (e_Tok2
  (e_Lok (sm_iadd (x_dk dn_357_1_0_ok 11 rfl)))
  (e_Lok (ld_aload_n_0 (x_dk dn_357_1_0_ok 12 rfl)))))
  (e_Tok2
  (e_Tok2
  (e_Lok (lk_12_177g ho_357 (x_dk dn_357_1_0_ok 13 rfl)))
  (e_Lok (e_st (I := eI) (er_ldcw (ix := 545) (z := 40000) (v := 40000) (x_dk dn_357_1_0_ok 14 rfl) (in_t12 (List.mem_of_getElem? (i := 40) rfl) rfl) (by decide)) (nx_push (Or.inl rfl)))))
  (e_Tok2
  (e_Lok (ld_iload_n_2 (x_dk dn_357_1_0_ok 15 rfl)))
  (e_Tok2
  (e_Lok (sm_iadd (x_dk dn_357_1_0_ok 16 rfl)))
  (e_Lok (sm_iaload (x_dk dn_357_1_0_ok 17 rfl))))))))
  (e_Tok2
  (e_Tok2
  (e_Tok2
  (e_Tok2
  (e_Lok (sm_iastore (x_dk dn_357_1_0_ok 18 rfl)))
  (e_Lok (e_st (I := eI) (er_iinc (i := 2) (n := 1) (x_dk dn_357_1_0_ok 19 rfl) (by decide +kernel) (by decide)) nx_inc)))
  (e_Tok2
  (e_Lok (e_st (I := eI) (er_goto (off := (-77)) (tg := 123) (x_dk dn_357_1_0_ok 20 rfl) (by decide)) nx_goto))
  (e_Lok (ps_iconst_0 (x_dk dn_357_1_0_ok 21 rfl)))))
  (e_Tok2
  (e_Tok2
  (e_Lok (e_st (I := eI) (er_istore_n (i := 2) (x_dk dn_357_1_0_ok 22 rfl) (by decide +kernel)) nx_stor))
  (e_Lok (ld_iload_n_2 (x_dk dn_357_1_0_ok 23 rfl))))
  (e_Tok2
  (e_Lok (ps_sipush_900 (x_dk dn_357_1_0_ok 24 rfl)))
  (e_Lok (e_st (I := eI) (er_icmpge (off := 141) (tg := 350) (x_dk dn_357_1_1_ok 0 rfl) (by decide)) nx_if2)))))
  (e_Tok2
  (e_Tok2
  (e_Tok2
  (e_Lok (ld_aload_n_0 (x_dk dn_357_1_1_ok 1 rfl)))
  (e_Lok (lk_12_180g ho_357 (x_dk dn_357_1_1_ok 2 rfl))))
  (e_Tok2
  (e_Lok (ps_sipush_900 (x_dk dn_357_1_1_ok 3 rfl)))
  (e_Lok (ld_iload_n_1 (x_dk dn_357_1_1_ok 4 rfl)))))
  (e_Tok2
  (e_Tok2
  (e_Lok (sm_imul (x_dk dn_357_1_1_ok 5 rfl)))
  (e_Lok (ld_iload_n_2 (x_dk dn_357_1_1_ok 6 rfl))))
  (e_Tok2
  (e_Lok (sm_iadd (x_dk dn_357_1_1_ok 7 rfl)))
  (e_Tok2
  (e_Lok (ld_aload_n_0 (x_dk dn_357_1_1_ok 8 rfl)))
  (e_Lok (lk_12_180g ho_357 (x_dk dn_357_1_1_ok 9 rfl)))))))))
def te_357_135 : Nat → eE := (e_T 252 (e_T 238 (e_T 232 (e_T 230 (e_T 227 (e_L 227 (0, ei_push (0, 3600) 230, 0, 0)) (e_L 230 (0, ei_load 2 0 231, 0, 0))) (e_T 231 (e_L 231 (0, ei_bin eF_add 232, 0, 0)) (e_L 232 (0, ei_ald elay false 233, 0, 0)))) (e_T 234 (e_T 233 (e_L 233 (0, ei_ast elay false 234, 0, 0)) (e_L 234 (0, ei_load 0 2 235, 0, 0))) (e_T 235 (e_L 235 (0, ei_getf eft elay 12 69 238, 0, 0)) (e_L 238 (0, ei_push (0, 900) 241, 0, 0))))) (e_T 244 (e_T 242 (e_T 241 (e_L 241 (0, ei_load 1 0 242, 0, 0)) (e_L 242 (0, ei_bin eF_mul 243, 0, 0))) (e_T 243 (e_L 243 (0, ei_load 2 0 244, 0, 0)) (e_L 244 (0, ei_bin eF_add 245, 0, 0)))) (e_T 246 (e_T 245 (e_L 245 (0, ei_load 0 2 246, 0, 0)) (e_L 246 (0, ei_getf eft elay 12 69 249, 0, 0))) (e_T 249 (e_L 249 (0, ei_push (0, 3600) 252, 0, 0)) (e_L 252 (0, ei_load 2 0 253, 0, 0)))))) (e_T 264 (e_T 256 (e_T 254 (e_T 253 (e_L 253 (0, ei_bin eF_add 254, 0, 0)) (e_L 254 (0, ei_ald elay false 255, 0, 0))) (e_T 255 (e_L 255 (0, ei_ast elay false 256, 0, 0)) (e_L 256 (0, ei_load 0 2 257, 0, 0)))) (e_T 260 (e_T 257 (e_L 257 (0, ei_getf eft elay 12 70 260, 0, 0)) (e_L 260 (0, ei_push (0, 900) 263, 0, 0))) (e_T 263 (e_L 263 (0, ei_load 1 0 264, 0, 0)) (e_L 264 (0, ei_bin eF_mul 265, 0, 0))))) (e_T 268 (e_T 266 (e_T 265 (e_L 265 (0, ei_load 2 0 266, 0, 0)) (e_L 266 (0, ei_bin eF_add 267, 0, 0))) (e_T 267 (e_L 267 (0, ei_load 0 2 268, 0, 0)) (e_L 268 (0, ei_getf eft elay 12 70 271, 0, 0)))) (e_T 274 (e_T 271 (e_L 271 (0, ei_push (0, 3600) 274, 0, 0)) (e_L 274 (0, ei_load 2 0 275, 0, 0))) (e_T 275 (e_L 275 (0, ei_bin eF_add 276, 0, 0)) (e_T 276 (e_L 276 (0, ei_ald elay false 277, 0, 0)) (e_L 277 (0, ei_ast elay false 278, 0, 0))))))))
set_option maxRecDepth 20000 in
set_option maxHeartbeats 4000000 in
theorem te_357_135_ok : ∀ pc, e_EOq eft cls elay eI n_357 pc (te_357_135 pc) :=
  (e_Tok2
  (e_Tok2
  (e_Tok2
  (e_Tok2
  (e_Tok2
  (e_Lok (ps_sipush_3600 (x_dk dn_357_1_1_ok 10 rfl)))
  (e_Lok (ld_iload_n_2 (x_dk dn_357_1_1_ok 11 rfl))))
  (e_Tok2
  (e_Lok (sm_iadd (x_dk dn_357_1_1_ok 12 rfl)))
  (e_Lok (sm_iaload (x_dk dn_357_1_1_ok 13 rfl)))))
  (e_Tok2
  (e_Tok2
  (e_Lok (sm_iastore (x_dk dn_357_1_1_ok 14 rfl)))
  (e_Lok (ld_aload_n_0 (x_dk dn_357_1_1_ok 15 rfl))))
  (e_Tok2
  (e_Lok (lk_12_183g ho_357 (x_dk dn_357_1_1_ok 16 rfl)))
  (e_Lok (ps_sipush_900 (x_dk dn_357_1_1_ok 17 rfl))))))
  (e_Tok2
  (e_Tok2
  (e_Tok2
  (e_Lok (ld_iload_n_1 (x_dk dn_357_1_1_ok 18 rfl)))
  (e_Lok (sm_imul (x_dk dn_357_1_1_ok 19 rfl))))
  (e_Tok2
  (e_Lok (ld_iload_n_2 (x_dk dn_357_1_1_ok 20 rfl)))
  (e_Lok (sm_iadd (x_dk dn_357_1_1_ok 21 rfl)))))
  (e_Tok2
  (e_Tok2
  (e_Lok (ld_aload_n_0 (x_dk dn_357_1_1_ok 22 rfl)))
  (e_Lok (lk_12_183g ho_357 (x_dk dn_357_1_1_ok 23 rfl))))
  (e_Tok2
  (e_Lok (ps_sipush_3600 (x_dk dn_357_1_1_ok 24 rfl)))
  (e_Lok (ld_iload_n_2 (x_dk dn_357_1_2_ok 0 rfl)))))))
  (e_Tok2
  (e_Tok2
  (e_Tok2
  (e_Tok2
  (e_Lok (sm_iadd (x_dk dn_357_1_2_ok 1 rfl)))
  (e_Lok (sm_iaload (x_dk dn_357_1_2_ok 2 rfl))))
  (e_Tok2
  (e_Lok (sm_iastore (x_dk dn_357_1_2_ok 3 rfl)))
  (e_Lok (ld_aload_n_0 (x_dk dn_357_1_2_ok 4 rfl)))))
  (e_Tok2
  (e_Tok2
  (e_Lok (lk_12_186g ho_357 (x_dk dn_357_1_2_ok 5 rfl)))
  (e_Lok (ps_sipush_900 (x_dk dn_357_1_2_ok 6 rfl))))
  (e_Tok2
  (e_Lok (ld_iload_n_1 (x_dk dn_357_1_2_ok 7 rfl)))
  (e_Lok (sm_imul (x_dk dn_357_1_2_ok 8 rfl))))))
  (e_Tok2
  (e_Tok2
  (e_Tok2
  (e_Lok (ld_iload_n_2 (x_dk dn_357_1_2_ok 9 rfl)))
  (e_Lok (sm_iadd (x_dk dn_357_1_2_ok 10 rfl))))
  (e_Tok2
  (e_Lok (ld_aload_n_0 (x_dk dn_357_1_2_ok 11 rfl)))
  (e_Lok (lk_12_186g ho_357 (x_dk dn_357_1_2_ok 12 rfl)))))
  (e_Tok2
  (e_Tok2
  (e_Lok (ps_sipush_3600 (x_dk dn_357_1_2_ok 13 rfl)))
  (e_Lok (ld_iload_n_2 (x_dk dn_357_1_2_ok 14 rfl))))
  (e_Tok2
  (e_Lok (sm_iadd (x_dk dn_357_1_2_ok 15 rfl)))
  (e_Tok2
  (e_Lok (sm_iaload (x_dk dn_357_1_2_ok 16 rfl)))
  (e_Lok (sm_iastore (x_dk dn_357_1_2_ok 17 rfl)))))))))
def te_357_168 : Nat → eE := (e_T 304 (e_T 289 (e_T 285 (e_T 279 (e_T 278 (e_L 278 (0, ei_load 0 2 279, 0, 0)) (e_L 279 (0, ei_getf eft elay 12 71 282, 0, 0))) (e_T 282 (e_L 282 (0, ei_push (0, 900) 285, 0, 0)) (e_L 285 (0, ei_load 1 0 286, 0, 0)))) (e_T 287 (e_T 286 (e_L 286 (0, ei_bin eF_mul 287, 0, 0)) (e_L 287 (0, ei_load 2 0 288, 0, 0))) (e_T 288 (e_L 288 (0, ei_bin eF_add 289, 0, 0)) (e_L 289 (0, ei_load 0 2 290, 0, 0))))) (e_T 297 (e_T 293 (e_T 290 (e_L 290 (0, ei_getf eft elay 12 71 293, 0, 0)) (e_L 293 (0, ei_push (0, 3600) 296, 0, 0))) (e_T 296 (e_L 296 (0, ei_load 2 0 297, 0, 0)) (e_L 297 (0, ei_bin eF_add 298, 0, 0)))) (e_T 299 (e_T 298 (e_L 298 (0, ei_ald elay false 299, 0, 0)) (e_L 299 (0, ei_ast elay false 300, 0, 0))) (e_T 300 (e_L 300 (0, ei_load 0 2 301, 0, 0)) (e_T 301 (e_L 301 (0, ei_getf eft elay 12 72 304, 0, 0)) (e_L 304 (0, ei_push (0, 900) 307, 0, 0))))))) (e_T 318 (e_T 310 (e_T 308 (e_T 307 (e_L 307 (0, ei_load 1 0 308, 0, 0)) (e_L 308 (0, ei_bin eF_mul 309, 0, 0))) (e_T 309 (e_L 309 (0, ei_load 2 0 310, 0, 0)) (e_L 310 (0, ei_bin eF_add 311, 0, 0)))) (e_T 312 (e_T 311 (e_L 311 (0, ei_load 0 2 312, 0, 0)) (e_L 312 (0, ei_getf eft elay 12 72 315, 0, 0))) (e_T 315 (e_L 315 (0, ei_push (0, 3600) 318, 0, 0)) (e_L 318 (0, ei_load 2 0 319, 0, 0))))) (e_T 322 (e_T 320 (e_T 319 (e_L 319 (0, ei_bin eF_add 320, 0, 0)) (e_L 320 (0, ei_ald elay false 321, 0, 0))) (e_T 321 (e_L 321 (0, ei_ast elay false 322, 0, 0)) (e_L 322 (0, ei_load 0 2 323, 0, 0)))) (e_T 326 (e_T 323 (e_L 323 (0, ei_getf eft elay 12 73 326, 0, 0)) (e_L 326 (0, ei_push (0, 900) 329, 0, 0))) (e_T 329 (e_L 329 (0, ei_load 1 0 330, 0, 0)) (e_T 330 (e_L 330 (0, ei_bin eF_mul 331, 0, 0)) (e_L 331 (0, ei_load 2 0 332, 0, 0))))))))
set_option maxRecDepth 20000 in
set_option maxHeartbeats 4000000 in
theorem te_357_168_ok : ∀ pc, e_EOq eft cls elay eI n_357 pc (te_357_168 pc) :=
  (e_Tok2
  (e_Tok2
  (e_Tok2
  (e_Tok2
  (e_Tok2
  (e_Lok (ld_aload_n_0 (x_dk dn_357_1_2_ok 18 rfl)))
  (e_Lok (lk_12_189g ho_357 (x_dk dn_357_1_2_ok 19 rfl))))
  (e_Tok2
  (e_Lok (ps_sipush_900 (x_dk dn_357_1_2_ok 20 rfl)))
  (e_Lok (ld_iload_n_1 (x_dk dn_357_1_2_ok 21 rfl)))))
  (e_Tok2
  (e_Tok2
  (e_Lok (sm_imul (x_dk dn_357_1_2_ok 22 rfl)))
  (e_Lok (ld_iload_n_2 (x_dk dn_357_1_2_ok 23 rfl))))
  (e_Tok2
  (e_Lok (sm_iadd (x_dk dn_357_1_2_ok 24 rfl)))
  (e_Lok (ld_aload_n_0 (x_dk dn_357_1_3_ok 0 rfl))))))
  (e_Tok2
  (e_Tok2
  (e_Tok2
  (e_Lok (lk_12_189g ho_357 (x_dk dn_357_1_3_ok 1 rfl)))
  (e_Lok (ps_sipush_3600 (x_dk dn_357_1_3_ok 2 rfl))))
  (e_Tok2
  (e_Lok (ld_iload_n_2 (x_dk dn_357_1_3_ok 3 rfl)))
  (e_Lok (sm_iadd (x_dk dn_357_1_3_ok 4 rfl)))))
  (e_Tok2
  (e_Tok2
  (e_Lok (sm_iaload (x_dk dn_357_1_3_ok 5 rfl)))
  (e_Lok (sm_iastore (x_dk dn_357_1_3_ok 6 rfl))))
  (e_Tok2
  (e_Lok (ld_aload_n_0 (x_dk dn_357_1_3_ok 7 rfl)))
  (e_Tok2
  (e_Lok (lk_12_192g ho_357 (x_dk dn_357_1_3_ok 8 rfl)))
  (e_Lok (ps_sipush_900 (x_dk dn_357_1_3_ok 9 rfl))))))))
  (e_Tok2
  (e_Tok2
  (e_Tok2
  (e_Tok2
  (e_Lok (ld_iload_n_1 (x_dk dn_357_1_3_ok 10 rfl)))
  (e_Lok (sm_imul (x_dk dn_357_1_3_ok 11 rfl))))
  (e_Tok2
  (e_Lok (ld_iload_n_2 (x_dk dn_357_1_3_ok 12 rfl)))
  (e_Lok (sm_iadd (x_dk dn_357_1_3_ok 13 rfl)))))
  (e_Tok2
  (e_Tok2
  (e_Lok (ld_aload_n_0 (x_dk dn_357_1_3_ok 14 rfl)))
  (e_Lok (lk_12_192g ho_357 (x_dk dn_357_1_3_ok 15 rfl))))
  (e_Tok2
  (e_Lok (ps_sipush_3600 (x_dk dn_357_1_3_ok 16 rfl)))
  (e_Lok (ld_iload_n_2 (x_dk dn_357_1_3_ok 17 rfl))))))
  (e_Tok2
  (e_Tok2
  (e_Tok2
  (e_Lok (sm_iadd (x_dk dn_357_1_3_ok 18 rfl)))
  (e_Lok (sm_iaload (x_dk dn_357_1_3_ok 19 rfl))))
  (e_Tok2
  (e_Lok (sm_iastore (x_dk dn_357_1_3_ok 20 rfl)))
  (e_Lok (ld_aload_n_0 (x_dk dn_357_1_3_ok 21 rfl)))))
  (e_Tok2
  (e_Tok2
  (e_Lok (lk_12_195g ho_357 (x_dk dn_357_1_3_ok 22 rfl)))
  (e_Lok (ps_sipush_900 (x_dk dn_357_1_3_ok 23 rfl))))
  (e_Tok2
  (e_Lok (ld_iload_n_1 (x_dk dn_357_1_3_ok 24 rfl)))
  (e_Tok2
  (e_Lok (sm_imul (x_dk dn_357_2_0_ok 0 rfl)))
  (e_Lok (ld_iload_n_2 (x_dk dn_357_2_0_ok 1 rfl)))))))))
def te_357_202 : Nat → eE := (e_T 359 (e_T 343 (e_T 337 (e_T 333 (e_T 332 (e_L 332 (0, ei_bin eF_add 333, 0, 0)) (e_L 333 (0, ei_load 0 2 334, 0, 0))) (e_T 334 (e_L 334 (0, ei_getf eft elay 12 73 337, 0, 0)) (e_L 337 (0, ei_push (0, 3600) 340, 0, 0)))) (e_T 341 (e_T 340 (e_L 340 (0, ei_load 2 0 341, 0, 0)) (e_L 341 (0, ei_bin eF_add 342, 0, 0))) (e_T 342 (e_L 342 (0, ei_ald elay false 343, 0, 0)) (e_L 343 (0, ei_ast elay false 344, 0, 0))))) (e_T 351 (e_T 347 (e_T 344 (e_L 344 (0, ei_inc 2 1 347, 0, 0)) (e_L 347 (0, ei_goto 205, 0, 0))) (e_T 350 (e_L 350 (0, ei_push (0, 0) 351, 0, 0)) (e_L 351 (0, ei_stor 2 0 352, 0, 0)))) (e_T 353 (e_T 352 (e_L 352 (0, ei_load 2 0 353, 0, 0)) (e_L 353 (0, ei_push (0, 32) 355, 0, 0))) (e_T 355 (e_L 355 (0, ei_if2 3 401 358, 0, 0)) (e_T 358 (e_L 358 (0, ei_load 0 2 359, 0, 0)) (e_L 359 (0, ei_getf eft elay 12 74 362, 0, 0))))))) (e_T 372 (e_T 366 (e_T 364 (e_T 362 (e_L 362 (0, ei_push (0, 32) 364, 0, 0)) (e_L 364 (0, ei_load 1 0 365, 0, 0))) (e_T 365 (e_L 365 (0, ei_bin eF_mul 366, 0, 0)) (e_L 366 (0, ei_load 2 0 367, 0, 0)))) (e_T 368 (e_T 367 (e_L 367 (0, ei_bin eF_add 368, 0, 0)) (e_L 368 (0, ei_load 0 2 369, 0, 0))) (e_T 369 (e_L 369 (0, ei_getf eft elay 12 74 372, 0, 0)) (e_L 372 (0, ei_push (0, 128) 375, 0, 0))))) (e_T 378 (e_T 376 (e_T 375 (e_L 375 (0, ei_load 2 0 376, 0, 0)) (e_L 376 (0, ei_bin eF_add 377, 0, 0))) (e_T 377 (e_L 377 (0, ei_ald elay false 378, 0, 0)) (e_L 378 (0, ei_ast elay false 379, 0, 0)))) (e_T 380 (e_T 379 (e_L 379 (0, ei_load 0 2 380, 0, 0)) (e_L 380 (0, ei_getf eft elay 12 0 383, 0, 0))) (e_T 383 (e_L 383 (0, ei_push (0, 20932) 386, 0, 0)) (e_T 386 (e_L 386 (0, ei_push (0, 32) 388, 0, 0)) (e_L 388 (0, ei_load 1 0 389, 0, 0))))))))
set_option maxRecDepth 20000 in
set_option maxHeartbeats 4000000 in
theorem te_357_202_ok : ∀ pc, e_EOq eft cls elay eI n_357 pc (te_357_202 pc) :=
  (e_Tok2
  (e_Tok2
  (e_Tok2
  (e_Tok2
  (e_Tok2
  (e_Lok (sm_iadd (x_dk dn_357_2_0_ok 2 rfl)))
  (e_Lok (ld_aload_n_0 (x_dk dn_357_2_0_ok 3 rfl))))
  (e_Tok2
  (e_Lok (lk_12_195g ho_357 (x_dk dn_357_2_0_ok 4 rfl)))
  (e_Lok (ps_sipush_3600 (x_dk dn_357_2_0_ok 5 rfl)))))
  (e_Tok2
  (e_Tok2
  (e_Lok (ld_iload_n_2 (x_dk dn_357_2_0_ok 6 rfl)))
  (e_Lok (sm_iadd (x_dk dn_357_2_0_ok 7 rfl))))
  (e_Tok2
  (e_Lok (sm_iaload (x_dk dn_357_2_0_ok 8 rfl)))
  (e_Lok (sm_iastore (x_dk dn_357_2_0_ok 9 rfl))))))
  (e_Tok2
  (e_Tok2
  (e_Tok2
  (e_Lok (e_st (I := eI) (er_iinc (i := 2) (n := 1) (x_dk dn_357_2_0_ok 10 rfl) (by decide +kernel) (by decide)) nx_inc))
  (e_Lok (e_st (I := eI) (er_goto (off := (-142)) (tg := 205) (x_dk dn_357_2_0_ok 11 rfl) (by decide)) nx_goto)))
  (e_Tok2
  (e_Lok (ps_iconst_0 (x_dk dn_357_2_0_ok 12 rfl)))
  (e_Lok (e_st (I := eI) (er_istore_n (i := 2) (x_dk dn_357_2_0_ok 13 rfl) (by decide +kernel)) nx_stor))))
  (e_Tok2
  (e_Tok2
  (e_Lok (ld_iload_n_2 (x_dk dn_357_2_0_ok 14 rfl)))
  (e_Lok (ps_bipush_32 (x_dk dn_357_2_0_ok 15 rfl))))
  (e_Tok2
  (e_Lok (e_st (I := eI) (er_icmpge (off := 46) (tg := 401) (x_dk dn_357_2_0_ok 16 rfl) (by decide)) nx_if2))
  (e_Tok2
  (e_Lok (ld_aload_n_0 (x_dk dn_357_2_0_ok 17 rfl)))
  (e_Lok (lk_12_198g ho_357 (x_dk dn_357_2_0_ok 18 rfl))))))))
  (e_Tok2
  (e_Tok2
  (e_Tok2
  (e_Tok2
  (e_Lok (ps_bipush_32 (x_dk dn_357_2_0_ok 19 rfl)))
  (e_Lok (ld_iload_n_1 (x_dk dn_357_2_0_ok 20 rfl))))
  (e_Tok2
  (e_Lok (sm_imul (x_dk dn_357_2_0_ok 21 rfl)))
  (e_Lok (ld_iload_n_2 (x_dk dn_357_2_0_ok 22 rfl)))))
  (e_Tok2
  (e_Tok2
  (e_Lok (sm_iadd (x_dk dn_357_2_0_ok 23 rfl)))
  (e_Lok (ld_aload_n_0 (x_dk dn_357_2_0_ok 24 rfl))))
  (e_Tok2
  (e_Lok (lk_12_198g ho_357 (x_dk dn_357_2_1_ok 0 rfl)))
  (e_Lok (ps_sipush_128 (x_dk dn_357_2_1_ok 1 rfl))))))
  (e_Tok2
  (e_Tok2
  (e_Tok2
  (e_Lok (ld_iload_n_2 (x_dk dn_357_2_1_ok 2 rfl)))
  (e_Lok (sm_iadd (x_dk dn_357_2_1_ok 3 rfl))))
  (e_Tok2
  (e_Lok (sm_iaload (x_dk dn_357_2_1_ok 4 rfl)))
  (e_Lok (sm_iastore (x_dk dn_357_2_1_ok 5 rfl)))))
  (e_Tok2
  (e_Tok2
  (e_Lok (ld_aload_n_0 (x_dk dn_357_2_1_ok 6 rfl)))
  (e_Lok (lk_12_8g ho_357 (x_dk dn_357_2_1_ok 7 rfl))))
  (e_Tok2
  (e_Lok (ps_sipush_20932 (x_dk dn_357_2_1_ok 8 rfl)))
  (e_Tok2
  (e_Lok (ps_bipush_32 (x_dk dn_357_2_1_ok 9 rfl)))
  (e_Lok (ld_iload_n_1 (x_dk dn_357_2_1_ok 10 rfl)))))))))
def te_357_236 : Nat → eE := (e_T 413 (e_T 398 (e_T 392 (e_T 390 (e_T 389 (e_L 389 (0, ei_bin eF_mul 390, 0, 0)) (e_L 390 (0, ei_bin eF_add 391, 0, 0))) (e_T 391 (e_L 391 (0, ei_load 2 0 392, 0, 0)) (e_L 392 (0, ei_bin eF_add 393, 0, 0)))) (e_T 394 (e_T 393 (e_L 393 (0, ei_push (0, 0) 394, 0, 0)) (e_L 394 (0, ei_ast elay false 395, 0, 0))) (e_T 395 (e_L 395 (0, ei_inc 2 1 398, 0, 0)) (e_L 398 (0, ei_goto 352, 0, 0))))) (e_T 406 (e_T 402 (e_T 401 (e_L 401 (0, ei_load 0 2 402, 0, 0)) (e_L 402 (0, ei_getf eft elay 12 75 405, 0, 0))) (e_T 405 (e_L 405 (0, ei_load 1 0 406, 0, 0)) (e_L 406 (0, ei_load 0 2 407, 0, 0)))) (e_T 410 (e_T 407 (e_L 407 (0, ei_getf eft elay 12 75 410, 0, 0)) (e_L 410 (0, ei_push (0, 4) 411, 0, 0))) (e_T 411 (e_L 411 (0, ei_ald elay false 412, 0, 0)) (e_T 412 (e_L 412 (0, ei_ast elay false 413, 0, 0)) (e_L 413 (0, ei_load 0 2 414, 0, 0))))))) (e_T 425 (e_T 419 (e_T 417 (e_T 414 (e_L 414 (0, ei_getf eft elay 12 76 417, 0, 0)) (e_L 417 (0, ei_load 1 0 418, 0, 0))) (e_T 418 (e_L 418 (0, ei_load 0 2 419, 0, 0)) (e_L 419 (0, ei_getf eft elay 12 76 422, 0, 0)))) (e_T 423 (e_T 422 (e_L 422 (0, ei_push (0, 4) 423, 0, 0)) (e_L 423 (0, ei_ald elay false 424, 0, 0))) (e_T 424 (e_L 424 (0, ei_ast elay false 425, 0, 0)) (e_L 425 (0, ei_load 0 2 426, 0, 0))))) (e_T 431 (e_T 429 (e_T 426 (e_L 426 (0, ei_getf eft elay 12 77 429, 0, 0)) (e_L 429 (0, ei_load 1 0 430, 0, 0))) (e_T 430 (e_L 430 (0, ei_push (0, 1) 431, 0, 0)) (e_L 431 (0, ei_ast elay true 432, 0, 0)))) (e_T 433 (e_T 432 (e_L 432 (0, ei_load 0 2 433, 0, 0)) (e_L 433 (0, ei_getf eft elay 12 75 436, 0, 0))) (e_T 436 (e_L 436 (0, ei_load 1 0 437, 0, 0)) (e_T 437 (e_L 437 (0, ei_ald elay false 438, 0, 0)) (e_L 438 (1, e_nof, 1, 0))))))))
set_option maxRecDepth 20000 in
set_option maxHeartbeats 4000000 in
theorem te_357_236_ok : ∀ pc, e_EOq eft cls elay eI n_357 pc (te_357_236 pc) :=
  (e_Tok2
  (e_Tok2
  (e_Tok2
  (e_Tok2
  (e_Tok2
  (e_Lok (sm_imul (x_dk dn_357_2_1_ok 11 rfl)))
  (e_Lok (sm_iadd (x_dk dn_357_2_1_ok 12 rfl))))
  (e_Tok2
  (e_Lok (ld_iload_n_2 (x_dk dn_357_2_1_ok 13 rfl)))
  (e_Lok (sm_iadd (x_dk dn_357_2_1_ok 14 rfl)))))
  (e_Tok2
  (e_Tok2
  (e_Lok (ps_iconst_0 (x_dk dn_357_2_1_ok 15 rfl)))
  (e_Lok (sm_iastore (x_dk dn_357_2_1_ok 16 rfl))))
  (e_Tok2
  (e_Lok (e_st (I := eI) (er_iinc (i := 2) (n := 1) (x_dk dn_357_2_1_ok 17 rfl) (by decide +kernel) (by decide)) nx_inc))
  (e_Lok (e_st (I := eI) (er_goto (off := (-46)) (tg := 352) (x_dk dn_357_2_1_ok 18 rfl) (by decide)) nx_goto)))))
  (e_Tok2
  (e_Tok2
  (e_Tok2
  (e_Lok (ld_aload_n_0 (x_dk dn_357_2_1_ok 19 rfl)))
  (e_Lok (lk_12_201g ho_357 (x_dk dn_357_2_1_ok 20 rfl))))
  (e_Tok2
  (e_Lok (ld_iload_n_1 (x_dk dn_357_2_1_ok 21 rfl)))
  (e_Lok (ld_aload_n_0 (x_dk dn_357_2_1_ok 22 rfl)))))
  (e_Tok2
  (e_Tok2
  (e_Lok (lk_12_201g ho_357 (x_dk dn_357_2_1_ok 23 rfl)))
  (e_Lok (ps_iconst_4 (x_dk dn_357_2_1_ok 24 rfl))))
  (e_Tok2
  (e_Lok (sm_iaload (x_dk dn_357_2_2_ok 0 rfl)))
  (e_Tok2
  (e_Lok (sm_iastore (x_dk dn_357_2_2_ok 1 rfl)))
  (e_Lok (ld_aload_n_0 (x_dk dn_357_2_2_ok 2 rfl))))))))
  (e_Tok2
  (e_Tok2
  (e_Tok2
  (e_Tok2
  (e_Lok (lk_12_204g ho_357 (x_dk dn_357_2_2_ok 3 rfl)))
  (e_Lok (ld_iload_n_1 (x_dk dn_357_2_2_ok 4 rfl))))
  (e_Tok2
  (e_Lok (ld_aload_n_0 (x_dk dn_357_2_2_ok 5 rfl)))
  (e_Lok (lk_12_204g ho_357 (x_dk dn_357_2_2_ok 6 rfl)))))
  (e_Tok2
  (e_Tok2
  (e_Lok (ps_iconst_4 (x_dk dn_357_2_2_ok 7 rfl)))
  (e_Lok (sm_iaload (x_dk dn_357_2_2_ok 8 rfl))))
  (e_Tok2
  (e_Lok (sm_iastore (x_dk dn_357_2_2_ok 9 rfl)))
  (e_Lok (ld_aload_n_0 (x_dk dn_357_2_2_ok 10 rfl))))))
  (e_Tok2
  (e_Tok2
  (e_Tok2
  (e_Lok (lk_12_207g ho_357 (x_dk dn_357_2_2_ok 11 rfl)))
  (e_Lok (ld_iload_n_1 (x_dk dn_357_2_2_ok 12 rfl))))
  (e_Tok2
  (e_Lok (ps_iconst_1 (x_dk dn_357_2_2_ok 13 rfl)))
  (e_Lok (e_st (I := eI) (er_bastore (x_dk dn_357_2_2_ok 14 rfl)) nx_ast))))
  (e_Tok2
  (e_Tok2
  (e_Lok (ld_aload_n_0 (x_dk dn_357_2_2_ok 15 rfl)))
  (e_Lok (lk_12_201g ho_357 (x_dk dn_357_2_2_ok 16 rfl))))
  (e_Tok2
  (e_Lok (ld_iload_n_1 (x_dk dn_357_2_2_ok 17 rfl)))
  (e_Tok2
  (e_Lok (sm_iaload (x_dk dn_357_2_2_ok 18 rfl)))
  (e_Lok (e_rt (I := eI) (k := 1) ⟨(x_dk dn_357_2_2_ok 19 rfl), rfl⟩))))))))
def te_357 : Nat → eE := (e_T 224 (e_T 113 (e_T 55 te_357_0 te_357_33) (e_T 168 te_357_67 te_357_101)) (e_T 331 (e_T 277 te_357_135 te_357_168) (e_T 388 te_357_202 te_357_236)))
theorem te_357_ok : ∀ pc, e_EOq eft cls elay eI n_357 pc (te_357 pc) := (e_Tok2 ((e_Tok2 ((e_Tok2 (te_357_0_ok) (te_357_33_ok))) ((e_Tok2 (te_357_67_ok) (te_357_101_ok))))) ((e_Tok2 ((e_Tok2 (te_357_135_ok) (te_357_168_ok))) ((e_Tok2 (te_357_202_ok) (te_357_236_ok))))))
theorem ho_358 : (xm_y n_358).cls = "RobotCellHouseModel" := rfl
def dn_358_0_0 : List (Nat × Instr × Nat) := [(0, .aload_n 0, 1), (1, .getfield 639, 3), (4, .ifCond .eq 13, 3), (7, .iload_n 1, 1), (8, .i2l, 1), (9, .lconst 0, 1), (10, .lconst 1, 1), (11, .invokestatic 301, 3), (14, .ifCond .ne 7, 3), (17, .iconst (-1), 1), (18, .goto 18, 3), (21, .iload_n 1, 1), (22, .ifCond .ne 10, 3), (25, .aload_n 0, 1), (26, .getfield 530, 3), (29, .goto 7, 3), (32, .aload_n 0, 1), (33, .getfield 533, 3), (36, .ireturn, 1)]
set_option maxRecDepth 20000 in
theorem dn_358_0_0_ok : dn_358_0_0.all (fun q => decide (decode (xm_b n_358) q.1 = .ok (q.2.1, q.2.2))) = true := xa_g_ok (by decide +kernel)
def te_358_0 : Nat → eE := (e_T 14 (e_T 7 (e_T 1 (e_T 0 (e_L 0 (0, ei_load 0 2 1, 0, 0)) (e_L 1 (0, ei_getf eft elay 12 95 4, 0, 0))) (e_T 4 (e_L 4 (0, ei_if1 0 17 7, 0, 0)) (e_L 7 (0, ei_load 1 0 8, 0, 0)))) (e_T 9 (e_T 8 (e_L 8 (0, ei_un (fun x => (4, x)) 9, 0, 0)) (e_L 9 (0, ei_push (4, 0) 10, 0, 0))) (e_T 10 (e_L 10 (0, ei_push (4, 1) 11, 0, 0)) (e_T 11 (e_L 11 (2, e_nof, 266, 3)) (e_L 14 (0, ei_if1 1 21 17, 0, 0)))))) (e_T 25 (e_T 18 (e_T 17 (e_L 17 (0, ei_push (0, (-1)) 18, 0, 0)) (e_L 18 (0, ei_goto 36, 0, 0))) (e_T 21 (e_L 21 (0, ei_load 1 0 22, 0, 0)) (e_T 22 (e_L 22 (0, ei_if1 1 32 25, 0, 0)) (e_L 25 (0, ei_load 0 2 26, 0, 0))))) (e_T 29 (e_T 26 (e_L 26 (0, ei_getf eft elay 12 88 29, 0, 0)) (e_L 29 (0, ei_goto 36, 0, 0))) (e_T 32 (e_L 32 (0, ei_load 0 2 33, 0, 0)) (e_T 33 (e_L 33 (0, ei_getf eft elay 12 89 36, 0, 0)) (e_L 36 (1, e_nof, 1, 0)))))))
set_option maxRecDepth 20000 in
set_option maxHeartbeats 4000000 in
theorem te_358_0_ok : ∀ pc, e_EOq eft cls elay eI n_358 pc (te_358_0 pc) :=
  (e_Tok2
  (e_Tok2
  (e_Tok2
  (e_Tok2
  (e_Lok (ld_aload_n_0 (x_dk dn_358_0_0_ok 0 rfl)))
  (e_Lok (lk_12_639g ho_358 (x_dk dn_358_0_0_ok 1 rfl))))
  (e_Tok2
  (e_Lok (e_st (I := eI) (er_ifeq (off := 13) (tg := 17) (x_dk dn_358_0_0_ok 2 rfl) (by decide)) nx_if1))
  (e_Lok (ld_iload_n_1 (x_dk dn_358_0_0_ok 3 rfl)))))
  (e_Tok2
  (e_Tok2
  (e_Lok (e_st (I := eI) (er_i2l (x_dk dn_358_0_0_ok 4 rfl)) (nx_un (fun _ => rfl))))
  (e_Lok (ps_lconst_0 (x_dk dn_358_0_0_ok 5 rfl))))
  (e_Tok2
  (e_Lok (ps_lconst_1 (x_dk dn_358_0_0_ok 6 rfl)))
  (e_Tok2
  (e_Lok (lk_12_301 ho_358 (x_dk dn_358_0_0_ok 7 rfl)))
  (e_Lok (e_st (I := eI) (er_ifne (off := 7) (tg := 21) (x_dk dn_358_0_0_ok 8 rfl) (by decide)) nx_if1))))))
  (e_Tok2
  (e_Tok2
  (e_Tok2
  (e_Lok (ps_iconst_m1 (x_dk dn_358_0_0_ok 9 rfl)))
  (e_Lok (e_st (I := eI) (er_goto (off := 18) (tg := 36) (x_dk dn_358_0_0_ok 10 rfl) (by decide)) nx_goto)))
  (e_Tok2
  (e_Lok (ld_iload_n_1 (x_dk dn_358_0_0_ok 11 rfl)))
  (e_Tok2
  (e_Lok (e_st (I := eI) (er_ifne (off := 10) (tg := 32) (x_dk dn_358_0_0_ok 12 rfl) (by decide)) nx_if1))
  (e_Lok (ld_aload_n_0 (x_dk dn_358_0_0_ok 13 rfl))))))
  (e_Tok2
  (e_Tok2
  (e_Lok (lk_12_530g ho_358 (x_dk dn_358_0_0_ok 14 rfl)))
  (e_Lok (e_st (I := eI) (er_goto (off := 7) (tg := 36) (x_dk dn_358_0_0_ok 15 rfl) (by decide)) nx_goto)))
  (e_Tok2
  (e_Lok (ld_aload_n_0 (x_dk dn_358_0_0_ok 16 rfl)))
  (e_Tok2
  (e_Lok (lk_12_533g ho_358 (x_dk dn_358_0_0_ok 17 rfl)))
  (e_Lok (e_rt (I := eI) (k := 1) ⟨(x_dk dn_358_0_0_ok 18 rfl), rfl⟩)))))))
def te_358 : Nat → eE := te_358_0
theorem te_358_ok : ∀ pc, e_EOq eft cls elay eI n_358 pc (te_358 pc) := te_358_0_ok
theorem ho_359 : (xm_y n_359).cls = "RobotCellHouseModel" := rfl
def dn_359_0_0 : List (Nat × Instr × Nat) := [(0, .iconst 0, 1), (1, .istore_n 3, 1), (2, .iload_n 3, 1), (3, .bipush 16, 2), (5, .if_icmp .ge 35, 3), (8, .aload_n 0, 1), (9, .getfield 8, 3), (12, .iload_n 3, 1), (13, .invokestatic 298, 3), (16, .iaload, 1), (17, .ifCond .eq 23, 3), (20, .aload_n 0, 1), (21, .getfield 8, 3), (24, .iload_n 3, 1), (25, .invokestatic 298, 3), (28, .iaload, 1), (29, .bipush 6, 2), (31, .if_icmp .eq 9, 3), (34, .iinc 3 1, 3), (37, .goto (-35), 3), (40, .iload_n 3, 1), (41, .bipush 16, 2), (43, .if_icmp .ne 5, 3), (46, .iconst (-1), 1), (47, .ireturn, 1)]
set_option maxRecDepth 20000 in
theorem dn_359_0_0_ok : dn_359_0_0.all (fun q => decide (decode (xm_b n_359) q.1 = .ok (q.2.1, q.2.2))) = true := xa_g_ok (by decide +kernel)
def dn_359_0_1 : List (Nat × Instr × Nat) := [(48, .iload_n 3, 1), (49, .invokestatic 298, 3), (52, .istore 4, 2), (54, .iconst 0, 1), (55, .istore 5, 2), (57, .iload 5, 2), (59, .bipush 20, 2), (61, .if_icmp .ge 20, 3), (64, .aload_n 0, 1), (65, .getfield 8, 3), (68, .iload 4, 2), (70, .iload 5, 2), (72, .iadd, 1), (73, .iconst 0, 1), (74, .iastore, 1), (75, .iinc 5 1, 3), (78, .goto (-21), 3), (81, .aload_n 0, 1), (82, .getfield 8, 3), (85, .iload 4, 2), (87, .iconst 1, 1), (88, .iastore, 1), (89, .aload_n 0, 1), (90, .getfield 8, 3), (93, .iload 4, 2)]
set_option maxRecDepth 20000 in
theorem dn_359_0_1_ok : dn_359_0_1.all (fun q => decide (decode (xm_b n_359) q.1 = .ok (q.2.1, q.2.2))) = true := xa_g_ok (by decide +kernel)
def dn_359_0_2 : List (Nat × Instr × Nat) := [(95, .iconst 1, 1), (96, .iadd, 1), (97, .iload_n 1, 1), (98, .iastore, 1), (99, .aload_n 0, 1), (100, .getfield 8, 3), (103, .iload 4, 2), (105, .bipush 8, 2), (107, .iadd, 1), (108, .iconst (-1), 1), (109, .iastore, 1), (110, .aload_n 0, 1), (111, .getfield 8, 3), (114, .iload 4, 2), (116, .bipush 11, 2), (118, .iadd, 1), (119, .aload_n 0, 1), (120, .getfield 8, 3), (123, .iconst 0, 1), (124, .iaload, 1), (125, .iconst 1, 1), (126, .iadd, 1), (127, .iastore, 1), (128, .aload_n 0, 1), (129, .getfield 8, 3)]
set_option maxRecDepth 20000 in
theorem dn_359_0_2_ok : dn_359_0_2.all (fun q => decide (decode (xm_b n_359) q.1 = .ok (q.2.1, q.2.2))) = true := xa_g_ok (by decide +kernel)
def dn_359_0_3 : List (Nat × Instr × Nat) := [(132, .iload 4, 2), (134, .bipush 12, 2), (136, .iadd, 1), (137, .iconst 1, 1), (138, .iastore, 1), (139, .aload_n 0, 1), (140, .getfield 8, 3), (143, .iload 4, 2), (145, .bipush 20, 2), (147, .iadd, 1), (148, .aload_n 0, 1), (149, .getfield 198, 3), (152, .bipush 32, 2), (154, .iload_n 1, 1), (155, .imul, 1), (156, .iload_n 2, 1), (157, .iadd, 1), (158, .iaload, 1), (159, .iastore, 1), (160, .aload_n 0, 1), (161, .getfield 8, 3), (164, .iload 4, 2), (166, .bipush 20, 2), (168, .iadd, 1), (169, .iconst 1, 1)]
set_option maxRecDepth 20000 in
theorem dn_359_0_3_ok : dn_359_0_3.all (fun q => decide (decode (xm_b n_359) q.1 = .ok (q.2.1, q.2.2))) = true := xa_g_ok (by decide +kernel)
def dn_359_1_0 : List (Nat × Instr × Nat) := [(170, .iadd, 1), (171, .iconst 0, 1), (172, .iastore, 1), (173, .iload_n 3, 1), (174, .ireturn, 1)]
set_option maxRecDepth 20000 in
theorem dn_359_1_0_ok : dn_359_1_0.all (fun q => decide (decode (xm_b n_359) q.1 = .ok (q.2.1, q.2.2))) = true := xa_g_ok (by decide +kernel)
def te_359_0 : Nat → eE := (e_T 21 (e_T 8 (e_T 2 (e_T 0 (e_L 0 (0, ei_push (0, 0) 1, 0, 0)) (e_T 1 (e_L 1 (0, ei_stor 3 0 2, 0, 0)) (e_L 2 (0, ei_load 3 0 3, 0, 0)))) (e_T 3 (e_L 3 (0, ei_push (0, 16) 5, 0, 0)) (e_T 5 (e_L 5 (0, ei_if2 3 40 8, 0, 0)) (e_L 8 (0, ei_load 0 2 9, 0, 0))))) (e_T 13 (e_T 9 (e_L 9 (0, ei_getf eft elay 12 0 12, 0, 0)) (e_T 12 (e_L 12 (0, ei_load 3 0 13, 0, 0)) (e_L 13 (2, e_nof, 269, 1)))) (e_T 17 (e_T 16 (e_L 16 (0, ei_ald elay false 17, 0, 0)) (e_L 17 (0, ei_if1 0 40 20, 0, 0))) (e_T 20 (e_L 20 (0, ei_load 0 2 21, 0, 0)) (e_L 21 (0, ei_getf eft elay 12 0 24, 0, 0)))))) (e_T 34 (e_T 28 (e_T 24 (e_L 24 (0, ei_load 3 0 25, 0, 0)) (e_T 25 (e_L 25 (2, e_nof, 269, 1)) (e_L 28 (0, ei_ald elay false 29, 0, 0)))) (e_T 29 (e_L 29 (0, ei_push (0, 6) 31, 0, 0)) (e_T 31 (e_L 31 (0, ei_if2 0 40 34, 0, 0)) (e_L 34 (0, ei_inc 3 1 37, 0, 0))))) (e_T 41 (e_T 37 (e_L 37 (0, ei_goto 2, 0, 0)) (e_T 40 (e_L 40 (0, ei_load 3 0 41, 0, 0)) (e_L 41 (0, ei_push (0, 16) 43, 0, 0)))) (e_T 46 (e_T 43 (e_L 43 (0, ei_if2 1 48 46, 0, 0)) (e_L 46 (0, ei_push (0, (-1)) 47, 0, 0))) (e_T 47 (e_L 47 (1, e_nof, 1, 0)) (e_L 48 (0, ei_load 3 0 49, 0, 0)))))))
set_option maxRecDepth 20000 in
set_option maxHeartbeats 4000000 in
theorem te_359_0_ok : ∀ pc, e_EOq eft cls elay eI n_359 pc (te_359_0 pc) :=
  (e_Tok2
  (e_Tok2
  (e_Tok2
  (e_Tok2
  (e_Lok (ps_iconst_0 (x_dk dn_359_0_0_ok 0 rfl)))
  (e_Tok2
  (e_Lok (e_st (I := eI) (er_istore_n (i := 3) (x_dk dn_359_0_0_ok 1 rfl) (by decide +kernel)) nx_stor))
  (e_Lok (ld_iload_n_3 (x_dk dn_359_0_0_ok 2 rfl)))))
  (e_Tok2
  (e_Lok (ps_bipush_16 (x_dk dn_359_0_0_ok 3 rfl)))
  (e_Tok2
  (e_Lok (e_st (I := eI) (er_icmpge (off := 35) (tg := 40) (x_dk dn_359_0_0_ok 4 rfl) (by decide)) nx_if2))
  (e_Lok (ld_aload_n_0 (x_dk dn_359_0_0_ok 5 rfl))))))
  (e_Tok2
  (e_Tok2
  (e_Lok (lk_12_8g ho_359 (x_dk dn_359_0_0_ok 6 rfl)))
  (e_Tok2
  (e_Lok (ld_iload_n_3 (x_dk dn_359_0_0_ok 7 rfl)))
  (e_Lok (lk_12_298 ho_359 (x_dk dn_359_0_0_ok 8 rfl)))))
  (e_Tok2
  (e_Tok2
  (e_Lok (sm_iaload (x_dk dn_359_0_0_ok 9 rfl)))
  (e_Lok (e_st (I := eI) (er_ifeq (off := 23) (tg := 40) (x_dk dn_359_0_0_ok 10 rfl) (by decide)) nx_if1)))
  (e_Tok2
  (e_Lok (ld_aload_n_0 (x_dk dn_359_0_0_ok 11 rfl)))
  (e_Lok (lk_12_8g ho_359 (x_dk dn_359_0_0_ok 12 rfl)))))))
  (e_Tok2
  (e_Tok2
  (e_Tok2
  (e_Lok (ld_iload_n_3 (x_dk dn_359_0_0_ok 13 rfl)))
  (e_Tok2
  (e_Lok (lk_12_298 ho_359 (x_dk dn_359_0_0_ok 14 rfl)))
  (e_Lok (sm_iaload (x_dk dn_359_0_0_ok 15 rfl)))))
  (e_Tok2
  (e_Lok (ps_bipush_6 (x_dk dn_359_0_0_ok 16 rfl)))
  (e_Tok2
  (e_Lok (e_st (I := eI) (er_icmpeq (off := 9) (tg := 40) (x_dk dn_359_0_0_ok 17 rfl) (by decide)) nx_if2))
  (e_Lok (e_st (I := eI) (er_iinc (i := 3) (n := 1) (x_dk dn_359_0_0_ok 18 rfl) (by decide +kernel) (by decide)) nx_inc)))))
  (e_Tok2
  (e_Tok2
  (e_Lok (e_st (I := eI) (er_goto (off := (-35)) (tg := 2) (x_dk dn_359_0_0_ok 19 rfl) (by decide)) nx_goto))
  (e_Tok2
  (e_Lok (ld_iload_n_3 (x_dk dn_359_0_0_ok 20 rfl)))
  (e_Lok (ps_bipush_16 (x_dk dn_359_0_0_ok 21 rfl)))))
  (e_Tok2
  (e_Tok2
  (e_Lok (e_st (I := eI) (er_icmpne (off := 5) (tg := 48) (x_dk dn_359_0_0_ok 22 rfl) (by decide)) nx_if2))
  (e_Lok (ps_iconst_m1 (x_dk dn_359_0_0_ok 23 rfl))))
  (e_Tok2
  (e_Lok (e_rt (I := eI) (k := 1) ⟨(x_dk dn_359_0_0_ok 24 rfl), rfl⟩))
  (e_Lok (ld_iload_n_3 (x_dk dn_359_0_1_ok 0 rfl))))))))
def te_359_26 : Nat → eE := (e_T 73 (e_T 59 (e_T 54 (e_T 49 (e_L 49 (2, e_nof, 269, 1)) (e_T 52 (e_L 52 (0, ei_stor 4 0 54, 0, 0)) (e_L 54 (0, ei_push (0, 0) 55, 0, 0)))) (e_T 55 (e_L 55 (0, ei_stor 5 0 57, 0, 0)) (e_T 57 (e_L 57 (0, ei_load 5 0 59, 0, 0)) (e_L 59 (0, ei_push (0, 20) 61, 0, 0))))) (e_T 65 (e_T 61 (e_L 61 (0, ei_if2 3 81 64, 0, 0)) (e_T 64 (e_L 64 (0, ei_load 0 2 65, 0, 0)) (e_L 65 (0, ei_getf eft elay 12 0 68, 0, 0)))) (e_T 70 (e_T 68 (e_L 68 (0, ei_load 4 0 70, 0, 0)) (e_L 70 (0, ei_load 5 0 72, 0, 0))) (e_T 72 (e_L 72 (0, ei_bin eF_add 73, 0, 0)) (e_L 73 (0, ei_push (0, 0) 74, 0, 0)))))) (e_T 85 (e_T 78 (e_T 74 (e_L 74 (0, ei_ast elay false 75, 0, 0)) (e_T 75 (e_L 75 (0, ei_inc 5 1 78, 0, 0)) (e_L 78 (0, ei_goto 57, 0, 0)))) (e_T 81 (e_L 81 (0, ei_load 0 2 82, 0, 0)) (e_T 82 (e_L 82 (0, ei_getf eft elay 12 0 85, 0, 0)) (e_L 85 (0, ei_load 4 0 87, 0, 0))))) (e_T 89 (e_T 87 (e_L 87 (0, ei_push (0, 1) 88, 0, 0)) (e_T 88 (e_L 88 (0, ei_ast elay false 89, 0, 0)) (e_L 89 (0, ei_load 0 2 90, 0, 0)))) (e_T 93 (e_T 90 (e_L 90 (0, ei_getf eft elay 12 0 93, 0, 0)) (e_L 93 (0, ei_load 4 0 95, 0, 0))) (e_T 95 (e_L 95 (0, ei_push (0, 1) 96, 0, 0)) (e_L 96 (0, ei_bin eF_add 97, 0, 0)))))))
set_option maxRecDepth 20000 in
set_option maxHeartbeats 4000000 in
theorem te_359_26_ok : ∀ pc, e_EOq eft cls elay eI n_359 pc (te_359_26 pc) :=
  (e_Tok2
  (e_Tok2
  (e_Tok2
  (e_Tok2
  (e_Lok (lk_12_298 ho_359 (x_dk dn_359_0_1_ok 1 rfl)))
  (e_Tok2
  (e_Lok (e_st (I := eI) (er_istore (i := 4) (x_dk dn_359_0_1_ok 2 rfl) (by decide +kernel)) nx_stor))
  (e_Lok (ps_iconst_0 (x_dk dn_359_0_1_ok 3 rfl)))))
  (e_Tok2
  (e_Lok (e_st (I := eI) (er_istore (i := 5) (x_dk dn_359_0_1_ok 4 rfl) (by decide +kernel)) nx_stor))
  (e_Tok2
  (e_Lok (ld_iload_5 (x_dk dn_359_0_1_ok 5 rfl)))
  (e_Lok (ps_bipush_20 (x_dk dn_359_0_1_ok 6 rfl))))))
  (e_Tok2
  (e_Tok2
  (e_Lok (e_st (I := eI) (er_icmpge (off := 20) (tg := 81) (x_dk dn_359_0_1_ok 7 rfl) (by decide)) nx_if2))
  (e_Tok2
  (e_Lok (ld_aload_n_0 (x_dk dn_359_0_1_ok 8 rfl)))
  (e_Lok (lk_12_8g ho_359 (x_dk dn_359_0_1_ok 9 rfl)))))
  (e_Tok2
  (e_Tok2
  (e_Lok (ld_iload_4 (x_dk dn_359_0_1_ok 10 rfl)))
  (e_Lok (ld_iload_5 (x_dk dn_359_0_1_ok 11 rfl))))
  (e_Tok2
  (e_Lok (sm_iadd (x_dk dn_359_0_1_ok 12 rfl)))
  (e_Lok (ps_iconst_0 (x_dk dn_359_0_1_ok 13 rfl)))))))
  (e_Tok2
  (e_Tok2
  (e_Tok2
  (e_Lok (sm_iastore (x_dk dn_359_0_1_ok 14 rfl)))
  (e_Tok2
  (e_Lok (e_st (I := eI) (er_iinc (i := 5) (n := 1) (x_dk dn_359_0_1_ok 15 rfl) (by decide +kernel) (by decide)) nx_inc))
  (e_Lok (e_st (I := eI) (er_goto (off := (-21)) (tg := 57) (x_dk dn_359_0_1_ok 16 rfl) (by decide)) nx_goto))))
  (e_Tok2
  (e_Lok (ld_aload_n_0 (x_dk dn_359_0_1_ok 17 rfl)))
  (e_Tok2
  (e_Lok (lk_12_8g ho_359 (x_dk dn_359_0_1_ok 18 rfl)))
  (e_Lok (ld_iload_4 (x_dk dn_359_0_1_ok 19 rfl))))))
  (e_Tok2
  (e_Tok2
  (e_Lok (ps_iconst_1 (x_dk dn_359_0_1_ok 20 rfl)))
  (e_Tok2
  (e_Lok (sm_iastore (x_dk dn_359_0_1_ok 21 rfl)))
  (e_Lok (ld_aload_n_0 (x_dk dn_359_0_1_ok 22 rfl)))))
  (e_Tok2
  (e_Tok2
  (e_Lok (lk_12_8g ho_359 (x_dk dn_359_0_1_ok 23 rfl)))
  (e_Lok (ld_iload_4 (x_dk dn_359_0_1_ok 24 rfl))))
  (e_Tok2
  (e_Lok (ps_iconst_1 (x_dk dn_359_0_2_ok 0 rfl)))
  (e_Lok (sm_iadd (x_dk dn_359_0_2_ok 1 rfl))))))))
def te_359_52 : Nat → eE := (e_T 116 (e_T 105 (e_T 99 (e_T 97 (e_L 97 (0, ei_load 1 0 98, 0, 0)) (e_T 98 (e_L 98 (0, ei_ast elay false 99, 0, 0)) (e_L 99 (0, ei_load 0 2 100, 0, 0)))) (e_T 100 (e_L 100 (0, ei_getf eft elay 12 0 103, 0, 0)) (e_T 103 (e_L 103 (0, ei_load 4 0 105, 0, 0)) (e_L 105 (0, ei_push (0, 8) 107, 0, 0))))) (e_T 109 (e_T 107 (e_L 107 (0, ei_bin eF_add 108, 0, 0)) (e_T 108 (e_L 108 (0, ei_push (0, (-1)) 109, 0, 0)) (e_L 109 (0, ei_ast elay false 110, 0, 0)))) (e_T 111 (e_T 110 (e_L 110 (0, ei_load 0 2 111, 0, 0)) (e_L 111 (0, ei_getf eft elay 12 0 114, 0, 0))) (e_T 114 (e_L 114 (0, ei_load 4 0 116, 0, 0)) (e_L 116 (0, ei_push (0, 11) 118, 0, 0)))))) (e_T 125 (e_T 120 (e_T 118 (e_L 118 (0, ei_bin eF_add 119, 0, 0)) (e_T 119 (e_L 119 (0, ei_load 0 2 120, 0, 0)) (e_L 120 (0, ei_getf eft elay 12 0 123, 0, 0)))) (e_T 123 (e_L 123 (0, ei_push (0, 0) 124, 0, 0)) (e_T 124 (e_L 124 (0, ei_ald elay false 125, 0, 0)) (e_L 125 (0, ei_push (0, 1) 126, 0, 0))))) (e_T 128 (e_T 126 (e_L 126 (0, ei_bin eF_add 127, 0, 0)) (e_T 127 (e_L 127 (0, ei_ast elay false 128, 0, 0)) (e_L 128 (0, ei_load 0 2 129, 0, 0)))) (e_T 132 (e_T 129 (e_L 129 (0, ei_getf eft elay 12 0 132, 0, 0)) (e_L 132 (0, ei_load 4 0 134, 0, 0))) (e_T 134 (e_L 134 (0, ei_push (0, 12) 136, 0, 0)) (e_L 136 (0, ei_bin eF_add 137, 0, 0)))))))
set_option maxRecDepth 20000 in
set_option maxHeartbeats 4000000 in
theorem te_359_52_ok : ∀ pc, e_EOq eft cls elay eI n_359 pc (te_359_52 pc) :=
  (e_Tok2
  (e_Tok2
  (e_Tok2
  (e_Tok2
  (e_Lok (ld_iload_n_1 (x_dk dn_359_0_2_ok 2 rfl)))
  (e_Tok2
  (e_Lok (sm_iastore (x_dk dn_359_0_2_ok 3 rfl)))
  (e_Lok (ld_aload_n_0 (x_dk dn_359_0_2_ok 4 rfl)))))
  (e_Tok2
  (e_Lok (lk_12_8g ho_359 (x_dk dn_359_0_2_ok 5 rfl)))
  (e_Tok2
  (e_Lok (ld_iload_4 (x_dk dn_359_0_2_ok 6 rfl)))
  (e_Lok (ps_bipush_8 (x_dk dn_359_0_2_ok 7 rfl))))))
  (e_Tok2
  (e_Tok2
  (e_Lok (sm_iadd (x_dk dn_359_0_2_ok 8 rfl)))
  (e_Tok2
  (e_Lok (ps_iconst_m1 (x_dk dn_359_0_2_ok 9 rfl)))
  (e_Lok (sm_iastore (x_dk dn_359_0_2_ok 10 rfl)))))
  (e_Tok2
  (e_Tok2
  (e_Lok (ld_aload_n_0 (x_dk dn_359_0_2_ok 11 rfl)))
  (e_Lok (lk_12_8g ho_359 (x_dk dn_359_0_2_ok 12 rfl))))
  (e_Tok2
  (e_Lok (ld_iload_4 (x_dk dn_359_0_2_ok 13 rfl)))
  (e_Lok (ps_bipush_11 (x_dk dn_359_0_2_ok 14 rfl)))))))
  (e_Tok2
  (e_Tok2
  (e_Tok2
  (e_Lok (sm_iadd (x_dk dn_359_0_2_ok 15 rfl)))
  (e_Tok2
  (e_Lok (ld_aload_n_0 (x_dk dn_359_0_2_ok 16 rfl)))
  (e_Lok (lk_12_8g ho_359 (x_dk dn_359_0_2_ok 17 rfl)))))
  (e_Tok2
  (e_Lok (ps_iconst_0 (x_dk dn_359_0_2_ok 18 rfl)))
  (e_Tok2
  (e_Lok (sm_iaload (x_dk dn_359_0_2_ok 19 rfl)))
  (e_Lok (ps_iconst_1 (x_dk dn_359_0_2_ok 20 rfl))))))
  (e_Tok2
  (e_Tok2
  (e_Lok (sm_iadd (x_dk dn_359_0_2_ok 21 rfl)))
  (e_Tok2
  (e_Lok (sm_iastore (x_dk dn_359_0_2_ok 22 rfl)))
  (e_Lok (ld_aload_n_0 (x_dk dn_359_0_2_ok 23 rfl)))))
  (e_Tok2
  (e_Tok2
  (e_Lok (lk_12_8g ho_359 (x_dk dn_359_0_2_ok 24 rfl)))
  (e_Lok (ld_iload_4 (x_dk dn_359_0_3_ok 0 rfl))))
  (e_Tok2
  (e_Lok (ps_bipush_12 (x_dk dn_359_0_3_ok 1 rfl)))
  (e_Lok (sm_iadd (x_dk dn_359_0_3_ok 2 rfl))))))))
def te_359_78 : Nat → eE := (e_T 156 (e_T 145 (e_T 139 (e_T 137 (e_L 137 (0, ei_push (0, 1) 138, 0, 0)) (e_T 138 (e_L 138 (0, ei_ast elay false 139, 0, 0)) (e_L 139 (0, ei_load 0 2 140, 0, 0)))) (e_T 140 (e_L 140 (0, ei_getf eft elay 12 0 143, 0, 0)) (e_T 143 (e_L 143 (0, ei_load 4 0 145, 0, 0)) (e_L 145 (0, ei_push (0, 20) 147, 0, 0))))) (e_T 149 (e_T 147 (e_L 147 (0, ei_bin eF_add 148, 0, 0)) (e_T 148 (e_L 148 (0, ei_load 0 2 149, 0, 0)) (e_L 149 (0, ei_getf eft elay 12 74 152, 0, 0)))) (e_T 154 (e_T 152 (e_L 152 (0, ei_push (0, 32) 154, 0, 0)) (e_L 154 (0, ei_load 1 0 155, 0, 0))) (e_T 155 (e_L 155 (0, ei_bin eF_mul 156, 0, 0)) (e_L 156 (0, ei_load 2 0 157, 0, 0)))))) (e_T 166 (e_T 159 (e_T 157 (e_L 157 (0, ei_bin eF_add 158, 0, 0)) (e_T 158 (e_L 158 (0, ei_ald elay false 159, 0, 0)) (e_L 159 (0, ei_ast elay false 160, 0, 0)))) (e_T 161 (e_T 160 (e_L 160 (0, ei_load 0 2 161, 0, 0)) (e_L 161 (0, ei_getf eft elay 12 0 164, 0, 0))) (e_T 164 (e_L 164 (0, ei_load 4 0 166, 0, 0)) (e_L 166 (0, ei_push (0, 20) 168, 0, 0))))) (e_T 170 (e_T 168 (e_L 168 (0, ei_bin eF_add 169, 0, 0)) (e_T 169 (e_L 169 (0, ei_push (0, 1) 170, 0, 0)) (e_L 170 (0, ei_bin eF_add 171, 0, 0)))) (e_T 172 (e_T 171 (e_L 171 (0, ei_push (0, 0) 172, 0, 0)) (e_L 172 (0, ei_ast elay false 173, 0, 0))) (e_T 173 (e_L 173 (0, ei_load 3 0 174, 0, 0)) (e_L 174 (1, e_nof, 1, 0)))))))
set_option maxRecDepth 20000 in
set_option maxHeartbeats 4000000 in
theorem te_359_78_ok : ∀ pc, e_EOq eft cls elay eI n_359 pc (te_359_78 pc) :=
  (e_Tok2
  (e_Tok2
  (e_Tok2
  (e_Tok2
  (e_Lok (ps_iconst_1 (x_dk dn_359_0_3_ok 3 rfl)))
  (e_Tok2
  (e_Lok (sm_iastore (x_dk dn_359_0_3_ok 4 rfl)))
  (e_Lok (ld_aload_n_0 (x_dk dn_359_0_3_ok 5 rfl)))))
  (e_Tok2
  (e_Lok (lk_12_8g ho_359 (x_dk dn_359_0_3_ok 6 rfl)))
  (e_Tok2
  (e_Lok (ld_iload_4 (x_dk dn_359_0_3_ok 7 rfl)))
  (e_Lok (ps_bipush_20 (x_dk dn_359_0_3_ok 8 rfl))))))
  (e_Tok2
  (e_Tok2
  (e_Lok (sm_iadd (x_dk dn_359_0_3_ok 9 rfl)))
  (e_Tok2
  (e_Lok (ld_aload_n_0 (x_dk dn_359_0_3_ok 10 rfl)))
  (e_Lok (lk_12_198g ho_359 (x_dk dn_359_0_3_ok 11 rfl)))))
  (e_Tok2
  (e_Tok2
  (e_Lok (ps_bipush_32 (x_dk dn_359_0_3_ok 12 rfl)))
  (e_Lok (ld_iload_n_1 (x_dk dn_359_0_3_ok 13 rfl))))
  (e_Tok2
  (e_Lok (sm_imul (x_dk dn_359_0_3_ok 14 rfl)))
  (e_Lok (ld_iload_n_2 (x_dk dn_359_0_3_ok 15 rfl)))))))
  (e_Tok2
  (e_Tok2
  (e_Tok2
  (e_Lok (sm_iadd (x_dk dn_359_0_3_ok 16 rfl)))
  (e_Tok2
  (e_Lok (sm_iaload (x_dk dn_359_0_3_ok 17 rfl)))
  (e_Lok (sm_iastore (x_dk dn_359_0_3_ok 18 rfl)))))
  (e_Tok2
  (e_Tok2
  (e_Lok (ld_aload_n_0 (x_dk dn_359_0_3_ok 19 rfl)))
  (e_Lok (lk_12_8g ho_359 (x_dk dn_359_0_3_ok 20 rfl))))
  (e_Tok2
  (e_Lok (ld_iload_4 (x_dk dn_359_0_3_ok 21 rfl)))
  (e_Lok (ps_bipush_20 (x_dk dn_359_0_3_ok 22 rfl))))))
  (e_Tok2
  (e_Tok2
  (e_Lok (sm_iadd (x_dk dn_359_0_3_ok 23 rfl)))
  (e_Tok2
  (e_Lok (ps_iconst_1 (x_dk dn_359_0_3_ok 24 rfl)))
  (e_Lok (sm_iadd (x_dk dn_359_1_0_ok 0 rfl)))))
  (e_Tok2
  (e_Tok2
  (e_Lok (ps_iconst_0 (x_dk dn_359_1_0_ok 1 rfl)))
  (e_Lok (sm_iastore (x_dk dn_359_1_0_ok 2 rfl))))
  (e_Tok2
  (e_Lok (ld_iload_n_3 (x_dk dn_359_1_0_ok 3 rfl)))
  (e_Lok (e_rt (I := eI) (k := 1) ⟨(x_dk dn_359_1_0_ok 4 rfl), rfl⟩)))))))
def te_359 : Nat → eE := (e_T 96 (e_T 48 te_359_0 te_359_26) (e_T 136 te_359_52 te_359_78))
theorem te_359_ok : ∀ pc, e_EOq eft cls elay eI n_359 pc (te_359 pc) := (e_Tok2 ((e_Tok2 (te_359_0_ok) (te_359_26_ok))) ((e_Tok2 (te_359_52_ok) (te_359_78_ok))))
theorem ho_360 : (xm_y n_360).cls = "RobotCellHouseModel" := rfl
def dn_360_0_0 : List (Nat × Instr × Nat) := [(0, .iconst (-1), 1), (1, .istore_n 2, 1), (2, .iconst 0, 1), (3, .istore_n 3, 1), (4, .iload_n 3, 1), (5, .bipush 16, 2), (7, .if_icmp .ge 70, 3), (10, .iload_n 3, 1), (11, .invokestatic 298, 3), (14, .istore 4, 2), (16, .aload_n 0, 1), (17, .getfield 8, 3), (20, .iload 4, 2), (22, .iaload, 1), (23, .iconst 5, 1), (24, .if_icmp .ne 47, 3), (27, .aload_n 0, 1), (28, .getfield 8, 3), (31, .iload 4, 2), (33, .iconst 5, 1), (34, .iadd, 1), (35, .iaload, 1), (36, .iload_n 1, 1), (37, .if_icmp .ne 34, 3), (40, .iload_n 2, 1)]
set_option maxRecDepth 20000 in
theorem dn_360_0_0_ok : dn_360_0_0.all (fun q => decide (decode (xm_b n_360) q.1 = .ok (q.2.1, q.2.2))) = true := xa_g_ok (by decide +kernel)
def dn_360_0_1 : List (Nat × Instr × Nat) := [(41, .ifCond .lt 28, 3), (44, .aload_n 0, 1), (45, .getfield 8, 3), (48, .iload 4, 2), (50, .bipush 6, 2), (52, .iadd, 1), (53, .iaload, 1), (54, .aload_n 0, 1), (55, .getfield 8, 3), (58, .iload_n 2, 1), (59, .invokestatic 298, 3), (62, .bipush 6, 2), (64, .iadd, 1), (65, .iaload, 1), (66, .if_icmp .ge 5, 3), (69, .iload_n 3, 1), (70, .istore_n 2, 1), (71, .iinc 3 1, 3), (74, .goto (-70), 3), (77, .aload_n 0, 1), (78, .getfield 8, 3), (81, .sipush 20868, 3), (84, .iload_n 1, 1), (85, .iadd, 1), (86, .iload_n 2, 1)]
set_option maxRecDepth 20000 in
theorem dn_360_0_1_ok : dn_360_0_1.all (fun q => decide (decode (xm_b n_360) q.1 = .ok (q.2.1, q.2.2))) = true := xa_g_ok (by decide +kernel)
def dn_360_0_2 : List (Nat × Instr × Nat) := [(87, .iastore, 1), (88, .return_, 1)]
set_option maxRecDepth 20000 in
theorem dn_360_0_2_ok : dn_360_0_2.all (fun q => decide (decode (xm_b n_360) q.1 = .ok (q.2.1, q.2.2))) = true := xa_g_ok (by decide +kernel)
def te_360_0 : Nat → eE := (e_T 20 (e_T 5 (e_T 2 (e_T 0 (e_L 0 (0, ei_push (0, (-1)) 1, 0, 0)) (e_T 1 (e_L 1 (0, ei_stor 2 0 2, 0, 0)) (e_L 2 (0, ei_push (0, 0) 3, 0, 0)))) (e_T 3 (e_L 3 (0, ei_stor 3 0 4, 0, 0)) (e_T 4 (e_L 4 (0, ei_load 3 0 5, 0, 0)) (e_L 5 (0, ei_push (0, 16) 7, 0, 0))))) (e_T 11 (e_T 7 (e_L 7 (0, ei_if2 3 77 10, 0, 0)) (e_T 10 (e_L 10 (0, ei_load 3 0 11, 0, 0)) (e_L 11 (2, e_nof, 269, 1)))) (e_T 16 (e_T 14 (e_L 14 (0, ei_stor 4 0 16, 0, 0)) (e_L 16 (0, ei_load 0 2 17, 0, 0))) (e_T 17 (e_L 17 (0, ei_getf eft elay 12 0 20, 0, 0)) (e_L 20 (0, ei_load 4 0 22, 0, 0)))))) (e_T 31 (e_T 24 (e_T 22 (e_L 22 (0, ei_ald elay false 23, 0, 0)) (e_T 23 (e_L 23 (0, ei_push (0, 5) 24, 0, 0)) (e_L 24 (0, ei_if2 1 71 27, 0, 0)))) (e_T 27 (e_L 27 (0, ei_load 0 2 28, 0, 0)) (e_T 28 (e_L 28 (0, ei_getf eft elay 12 0 31, 0, 0)) (e_L 31 (0, ei_load 4 0 33, 0, 0))))) (e_T 35 (e_T 33 (e_L 33 (0, ei_push (0, 5) 34, 0, 0)) (e_T 34 (e_L 34 (0, ei_bin eF_add 35, 0, 0)) (e_L 35 (0, ei_ald elay false 36, 0, 0)))) (e_T 37 (e_T 36 (e_L 36 (0, ei_load 1 0 37, 0, 0)) (e_L 37 (0, ei_if2 1 71 40, 0, 0))) (e_T 40 (e_L 40 (0, ei_load 2 0 41, 0, 0)) (e_L 41 (0, ei_if1 2 69 44, 0, 0)))))))
set_option maxRecDepth 20000 in
set_option maxHeartbeats 4000000 in
theorem te_360_0_ok : ∀ pc, e_EOq eft cls elay eI n_360 pc (te_360_0 pc) :=
  (e_Tok2
  (e_Tok2
  (e_Tok2
  (e_Tok2
  (e_Lok (ps_iconst_m1 (x_dk dn_360_0_0_ok 0 rfl)))
  (e_Tok2
  (e_Lok (e_st (I := eI) (er_istore_n (i := 2) (x_dk dn_360_0_0_ok 1 rfl) (by decide +kernel)) nx_stor))
  (e_Lok (ps_iconst_0 (x_dk dn_360_0_0_ok 2 rfl)))))
  (e_Tok2
  (e_Lok (e_st (I := eI) (er_istore_n (i := 3) (x_dk dn_360_0_0_ok 3 rfl) (by decide +kernel)) nx_stor))
  (e_Tok2
  (e_Lok (ld_iload_n_3 (x_dk dn_360_0_0_ok 4 rfl)))
  (e_Lok (ps_bipush_16 (x_dk dn_360_0_0_ok 5 rfl))))))
  (e_Tok2
  (e_Tok2
  (e_Lok (e_st (I := eI) (er_icmpge (off := 70) (tg := 77) (x_dk dn_360_0_0_ok 6 rfl) (by decide)) nx_if2))
  (e_Tok2
  (e_Lok (ld_iload_n_3 (x_dk dn_360_0_0_ok 7 rfl)))
  (e_Lok (lk_12_298 ho_360 (x_dk dn_360_0_0_ok 8 rfl)))))
  (e_Tok2
  (e_Tok2
  (e_Lok (e_st (I := eI) (er_istore (i := 4) (x_dk dn_360_0_0_ok 9 rfl) (by decide +kernel)) nx_stor))
  (e_Lok (ld_aload_n_0 (x_dk dn_360_0_0_ok 10 rfl))))
  (e_Tok2
  (e_Lok (lk_12_8g ho_360 (x_dk dn_360_0_0_ok 11 rfl)))
  (e_Lok (ld_iload_4 (x_dk dn_360_0_0_ok 12 rfl)))))))
  (e_Tok2
  (e_Tok2
  (e_Tok2
  (e_Lok (sm_iaload (x_dk dn_360_0_0_ok 13 rfl)))
  (e_Tok2
  (e_Lok (ps_iconst_5 (x_dk dn_360_0_0_ok 14 rfl)))
  (e_Lok (e_st (I := eI) (er_icmpne (off := 47) (tg := 71) (x_dk dn_360_0_0_ok 15 rfl) (by decide)) nx_if2))))
  (e_Tok2
  (e_Lok (ld_aload_n_0 (x_dk dn_360_0_0_ok 16 rfl)))
  (e_Tok2
  (e_Lok (lk_12_8g ho_360 (x_dk dn_360_0_0_ok 17 rfl)))
  (e_Lok (ld_iload_4 (x_dk dn_360_0_0_ok 18 rfl))))))
  (e_Tok2
  (e_Tok2
  (e_Lok (ps_iconst_5 (x_dk dn_360_0_0_ok 19 rfl)))
  (e_Tok2
  (e_Lok (sm_iadd (x_dk dn_360_0_0_ok 20 rfl)))
  (e_Lok (sm_iaload (x_dk dn_360_0_0_ok 21 rfl)))))
  (e_Tok2
  (e_Tok2
  (e_Lok (ld_iload_n_1 (x_dk dn_360_0_0_ok 22 rfl)))
  (e_Lok (e_st (I := eI) (er_icmpne (off := 34) (tg := 71) (x_dk dn_360_0_0_ok 23 rfl) (by decide)) nx_if2)))
  (e_Tok2
  (e_Lok (ld_iload_n_2 (x_dk dn_360_0_0_ok 24 rfl)))
  (e_Lok (e_st (I := eI) (er_iflt (off := 28) (tg := 69) (x_dk dn_360_0_1_ok 0 rfl) (by decide)) nx_if1)))))))
def te_360_26 : Nat → eE := (e_T 65 (e_T 53 (e_T 48 (e_T 44 (e_L 44 (0, ei_load 0 2 45, 0, 0)) (e_T 45 (e_L 45 (0, ei_getf eft elay 12 0 48, 0, 0)) (e_L 48 (0, ei_load 4 0 50, 0, 0)))) (e_T 50 (e_L 50 (0, ei_push (0, 6) 52, 0, 0)) (e_T 52 (e_L 52 (0, ei_bin eF_add 53, 0, 0)) (e_L 53 (0, ei_ald elay false 54, 0, 0))))) (e_T 58 (e_T 54 (e_L 54 (0, ei_load 0 2 55, 0, 0)) (e_T 55 (e_L 55 (0, ei_getf eft elay 12 0 58, 0, 0)) (e_L 58 (0, ei_load 2 0 59, 0, 0)))) (e_T 62 (e_T 59 (e_L 59 (2, e_nof, 269, 1)) (e_L 62 (0, ei_push (0, 6) 64, 0, 0))) (e_T 64 (e_L 64 (0, ei_bin eF_add 65, 0, 0)) (e_L 65 (0, ei_ald elay false 66, 0, 0)))))) (e_T 77 (e_T 70 (e_T 66 (e_L 66 (0, ei_if2 3 71 69, 0, 0)) (e_T 69 (e_L 69 (0, ei_load 3 0 70, 0, 0)) (e_L 70 (0, ei_stor 2 0 71, 0, 0)))) (e_T 71 (e_L 71 (0, ei_inc 3 1 74, 0, 0)) (e_T 74 (e_L 74 (0, ei_goto 4, 0, 0)) (e_L 77 (0, ei_load 0 2 78, 0, 0))))) (e_T 84 (e_T 78 (e_L 78 (0, ei_getf eft elay 12 0 81, 0, 0)) (e_T 81 (e_L 81 (0, ei_push (0, 20868) 84, 0, 0)) (e_L 84 (0, ei_load 1 0 85, 0, 0)))) (e_T 86 (e_T 85 (e_L 85 (0, ei_bin eF_add 86, 0, 0)) (e_L 86 (0, ei_load 2 0 87, 0, 0))) (e_T 87 (e_L 87 (0, ei_ast elay false 88, 0, 0)) (e_L 88 (1, e_nof, 0, 0)))))))
set_option maxRecDepth 20000 in
set_option maxHeartbeats 4000000 in
theorem te_360_26_ok : ∀ pc, e_EOq eft cls elay eI n_360 pc (te_360_26 pc) :=
  (e_Tok2
  (e_Tok2
  (e_Tok2
  (e_Tok2
  (e_Lok (ld_aload_n_0 (x_dk dn_360_0_1_ok 1 rfl)))
  (e_Tok2
  (e_Lok (lk_12_8g ho_360 (x_dk dn_360_0_1_ok 2 rfl)))
  (e_Lok (ld_iload_4 (x_dk dn_360_0_1_ok 3 rfl)))))
  (e_Tok2
  (e_Lok (ps_bipush_6 (x_dk dn_360_0_1_ok 4 rfl)))
  (e_Tok2
  (e_Lok (sm_iadd (x_dk dn_360_0_1_ok 5 rfl)))
  (e_Lok (sm_iaload (x_dk dn_360_0_1_ok 6 rfl))))))
  (e_Tok2
  (e_Tok2
  (e_Lok (ld_aload_n_0 (x_dk dn_360_0_1_ok 7 rfl)))
  (e_Tok2
  (e_Lok (lk_12_8g ho_360 (x_dk dn_360_0_1_ok 8 rfl)))
  (e_Lok (ld_iload_n_2 (x_dk dn_360_0_1_ok 9 rfl)))))
  (e_Tok2
  (e_Tok2
  (e_Lok (lk_12_298 ho_360 (x_dk dn_360_0_1_ok 10 rfl)))
  (e_Lok (ps_bipush_6 (x_dk dn_360_0_1_ok 11 rfl))))
  (e_Tok2
  (e_Lok (sm_iadd (x_dk dn_360_0_1_ok 12 rfl)))
  (e_Lok (sm_iaload (x_dk dn_360_0_1_ok 13 rfl)))))))
  (e_Tok2
  (e_Tok2
  (e_Tok2
  (e_Lok (e_st (I := eI) (er_icmpge (off := 5) (tg := 71) (x_dk dn_360_0_1_ok 14 rfl) (by decide)) nx_if2))
  (e_Tok2
  (e_Lok (ld_iload_n_3 (x_dk dn_360_0_1_ok 15 rfl)))
  (e_Lok (e_st (I := eI) (er_istore_n (i := 2) (x_dk dn_360_0_1_ok 16 rfl) (by decide +kernel)) nx_stor))))
  (e_Tok2
  (e_Lok (e_st (I := eI) (er_iinc (i := 3) (n := 1) (x_dk dn_360_0_1_ok 17 rfl) (by decide +kernel) (by decide)) nx_inc))
  (e_Tok2
  (e_Lok (e_st (I := eI) (er_goto (off := (-70)) (tg := 4) (x_dk dn_360_0_1_ok 18 rfl) (by decide)) nx_goto))
  (e_Lok (ld_aload_n_0 (x_dk dn_360_0_1_ok 19 rfl))))))
  (e_Tok2
  (e_Tok2
  (e_Lok (lk_12_8g ho_360 (x_dk dn_360_0_1_ok 20 rfl)))
  (e_Tok2
  (e_Lok (ps_sipush_20868 (x_dk dn_360_0_1_ok 21 rfl)))
  (e_Lok (ld_iload_n_1 (x_dk dn_360_0_1_ok 22 rfl)))))
  (e_Tok2
  (e_Tok2
  (e_Lok (sm_iadd (x_dk dn_360_0_1_ok 23 rfl)))
  (e_Lok (ld_iload_n_2 (x_dk dn_360_0_1_ok 24 rfl))))
  (e_Tok2
  (e_Lok (sm_iastore (x_dk dn_360_0_2_ok 0 rfl)))
  (e_Lok (e_rt (I := eI) (k := 0) ⟨(x_dk dn_360_0_2_ok 1 rfl), rfl⟩)))))))
def te_360 : Nat → eE := (e_T 41 te_360_0 te_360_26)
theorem te_360_ok : ∀ pc, e_EOq eft cls elay eI n_360 pc (te_360 pc) := (e_Tok2 (te_360_0_ok) (te_360_26_ok))
theorem ho_361 : (xm_y n_361).cls = "RobotCellHouseModel" := rfl
def dn_361_0_0 : List (Nat × Instr × Nat) := [(0, .iconst 0, 1), (1, .istore_n 2, 1), (2, .iload_n 2, 1), (3, .bipush 8, 2), (5, .if_icmp .ge 28, 3), (8, .aload_n 0, 1), (9, .getfield 8, 3), (12, .sipush 20868, 3), (15, .iload_n 2, 1), (16, .iadd, 1), (17, .iaload, 1), (18, .iload_n 1, 1), (19, .if_icmp .ne 8, 3), (22, .aload_n 0, 1), (23, .iload_n 2, 1), (24, .invokevirtual 648, 3), (27, .iinc 2 1, 3), (30, .goto (-28), 3), (33, .return_, 1)]
set_option maxRecDepth 20000 in
theorem dn_361_0_0_ok : dn_361_0_0.all (fun q => decide (decode (xm_b n_361) q.1 = .ok (q.2.1, q.2.2))) = true := xa_g_ok (by decide +kernel)
def te_361_0 : Nat → eE := (e_T 15 (e_T 3 (e_T 1 (e_T 0 (e_L 0 (0, ei_push (0, 0) 1, 0, 0)) (e_L 1 (0, ei_stor 2 0 2, 0, 0))) (e_T 2 (e_L 2 (0, ei_load 2 0 3, 0, 0)) (e_L 3 (0, ei_push (0, 8) 5, 0, 0)))) (e_T 8 (e_T 5 (e_L 5 (0, ei_if2 3 33 8, 0, 0)) (e_L 8 (0, ei_load 0 2 9, 0, 0))) (e_T 9 (e_L 9 (0, ei_getf eft elay 12 0 12, 0, 0)) (e_T 12 (e_L 12 (0, ei_push (0, 20868) 15, 0, 0)) (e_L 15 (0, ei_load 2 0 16, 0, 0)))))) (e_T 22 (e_T 17 (e_T 16 (e_L 16 (0, ei_bin eF_add 17, 0, 0)) (e_L 17 (0, ei_ald elay false 18, 0, 0))) (e_T 18 (e_L 18 (0, ei_load 1 0 19, 0, 0)) (e_T 19 (e_L 19 (0, ei_if2 1 27 22, 0, 0)) (e_L 22 (0, ei_load 0 2 23, 0, 0))))) (e_T 24 (e_T 23 (e_L 23 (0, ei_load 2 0 24, 0, 0)) (e_L 24 (2, e_nof, 360, 2))) (e_T 27 (e_L 27 (0, ei_inc 2 1 30, 0, 0)) (e_T 30 (e_L 30 (0, ei_goto 2, 0, 0)) (e_L 33 (1, e_nof, 0, 0)))))))
set_option maxRecDepth 20000 in
set_option maxHeartbeats 4000000 in
theorem te_361_0_ok : ∀ pc, e_EOq eft cls elay eI n_361 pc (te_361_0 pc) :=
  (e_Tok2
  (e_Tok2
  (e_Tok2
  (e_Tok2
  (e_Lok (ps_iconst_0 (x_dk dn_361_0_0_ok 0 rfl)))
  (e_Lok (e_st (I := eI) (er_istore_n (i := 2) (x_dk dn_361_0_0_ok 1 rfl) (by decide +kernel)) nx_stor)))
  (e_Tok2
  (e_Lok (ld_iload_n_2 (x_dk dn_361_0_0_ok 2 rfl)))
  (e_Lok (ps_bipush_8 (x_dk dn_361_0_0_ok 3 rfl)))))
  (e_Tok2
  (e_Tok2
  (e_Lok (e_st (I := eI) (er_icmpge (off := 28) (tg := 33) (x_dk dn_361_0_0_ok 4 rfl) (by decide)) nx_if2))
  (e_Lok (ld_aload_n_0 (x_dk dn_361_0_0_ok 5 rfl))))
  (e_Tok2
  (e_Lok (lk_12_8g ho_361 (x_dk dn_361_0_0_ok 6 rfl)))
  (e_Tok2
  (e_Lok (ps_sipush_20868 (x_dk dn_361_0_0_ok 7 rfl)))
  (e_Lok (ld_iload_n_2 (x_dk dn_361_0_0_ok 8 rfl)))))))
  (e_Tok2
  (e_Tok2
  (e_Tok2
  (e_Lok (sm_iadd (x_dk dn_361_0_0_ok 9 rfl)))
  (e_Lok (sm_iaload (x_dk dn_361_0_0_ok 10 rfl))))
  (e_Tok2
  (e_Lok (ld_iload_n_1 (x_dk dn_361_0_0_ok 11 rfl)))
  (e_Tok2
  (e_Lok (e_st (I := eI) (er_icmpne (off := 8) (tg := 27) (x_dk dn_361_0_0_ok 12 rfl) (by decide)) nx_if2))
  (e_Lok (ld_aload_n_0 (x_dk dn_361_0_0_ok 13 rfl))))))
  (e_Tok2
  (e_Tok2
  (e_Lok (ld_iload_n_2 (x_dk dn_361_0_0_ok 14 rfl)))
  (e_Lok (lk_12_648 ho_361 (x_dk dn_361_0_0_ok 15 rfl))))
  (e_Tok2
  (e_Lok (e_st (I := eI) (er_iinc (i := 2) (n := 1) (x_dk dn_361_0_0_ok 16 rfl) (by decide +kernel) (by decide)) nx_inc))
  (e_Tok2
  (e_Lok (e_st (I := eI) (er_goto (off := (-28)) (tg := 2) (x_dk dn_361_0_0_ok 17 rfl) (by decide)) nx_goto))
  (e_Lok (e_rt (I := eI) (k := 0) ⟨(x_dk dn_361_0_0_ok 18 rfl), rfl⟩)))))))
def te_361 : Nat → eE := te_361_0
theorem te_361_ok : ∀ pc, e_EOq eft cls elay eI n_361 pc (te_361 pc) := te_361_0_ok
theorem ho_362 : (xm_y n_362).cls = "RobotCellHouseModel" := rfl
def dn_362_0_0 : List (Nat × Instr × Nat) := [(0, .aload_n 0, 1), (1, .getfield 651, 3), (4, .bipush 20, 2), (6, .iadd, 1), (7, .iconst 2, 1), (8, .aload_n 0, 1), (9, .getfield 8, 3), (12, .aload_n 0, 1), (13, .getfield 651, 3), (16, .bipush 12, 2), (18, .iadd, 1), (19, .iaload, 1), (20, .iconst 1, 1), (21, .isub, 1), (22, .imul, 1), (23, .iadd, 1), (24, .ireturn, 1)]
set_option maxRecDepth 20000 in
theorem dn_362_0_0_ok : dn_362_0_0.all (fun q => decide (decode (xm_b n_362) q.1 = .ok (q.2.1, q.2.2))) = true := xa_g_ok (by decide +kernel)
def te_362_0 : Nat → eE := (e_T 12 (e_T 6 (e_T 1 (e_T 0 (e_L 0 (0, ei_load 0 2 1, 0, 0)) (e_L 1 (0, ei_getf eft elay 12 97 4, 0, 0))) (e_T 4 (e_L 4 (0, ei_push (0, 20) 6, 0, 0)) (e_L 6 (0, ei_bin eF_add 7, 0, 0)))) (e_T 8 (e_T 7 (e_L 7 (0, ei_push (0, 2) 8, 0, 0)) (e_L 8 (0, ei_load 0 2 9, 0, 0))) (e_T 9 (e_L 9 (0, ei_getf eft elay 12 0 12, 0, 0)) (e_L 12 (0, ei_load 0 2 13, 0, 0))))) (e_T 19 (e_T 16 (e_T 13 (e_L 13 (0, ei_getf eft elay 12 97 16, 0, 0)) (e_L 16 (0, ei_push (0, 12) 18, 0, 0))) (e_T 18 (e_L 18 (0, ei_bin eF_add 19, 0, 0)) (e_L 19 (0, ei_ald elay false 20, 0, 0)))) (e_T 21 (e_T 20 (e_L 20 (0, ei_push (0, 1) 21, 0, 0)) (e_L 21 (0, ei_bin eF_sub 22, 0, 0))) (e_T 22 (e_L 22 (0, ei_bin eF_mul 23, 0, 0)) (e_T 23 (e_L 23 (0, ei_bin eF_add 24, 0, 0)) (e_L 24 (1, e_nof, 1, 0)))))))
set_option maxRecDepth 20000 in
set_option maxHeartbeats 4000000 in
theorem te_362_0_ok : ∀ pc, e_EOq eft cls elay eI n_362 pc (te_362_0 pc) :=
  (e_Tok2
  (e_Tok2
  (e_Tok2
  (e_Tok2
  (e_Lok (ld_aload_n_0 (x_dk dn_362_0_0_ok 0 rfl)))
  (e_Lok (lk_12_651g ho_362 (x_dk dn_362_0_0_ok 1 rfl))))
  (e_Tok2
  (e_Lok (ps_bipush_20 (x_dk dn_362_0_0_ok 2 rfl)))
  (e_Lok (sm_iadd (x_dk dn_362_0_0_ok 3 rfl)))))
  (e_Tok2
  (e_Tok2
  (e_Lok (ps_iconst_2 (x_dk dn_362_0_0_ok 4 rfl)))
  (e_Lok (ld_aload_n_0 (x_dk dn_362_0_0_ok 5 rfl))))
  (e_Tok2
  (e_Lok (lk_12_8g ho_362 (x_dk dn_362_0_0_ok 6 rfl)))
  (e_Lok (ld_aload_n_0 (x_dk dn_362_0_0_ok 7 rfl))))))
  (e_Tok2
  (e_Tok2
  (e_Tok2
  (e_Lok (lk_12_651g ho_362 (x_dk dn_362_0_0_ok 8 rfl)))
  (e_Lok (ps_bipush_12 (x_dk dn_362_0_0_ok 9 rfl))))
  (e_Tok2
  (e_Lok (sm_iadd (x_dk dn_362_0_0_ok 10 rfl)))
  (e_Lok (sm_iaload (x_dk dn_362_0_0_ok 11 rfl)))))
  (e_Tok2
  (e_Tok2
  (e_Lok (ps_iconst_1 (x_dk dn_362_0_0_ok 12 rfl)))
  (e_Lok (sm_isub (x_dk dn_362_0_0_ok 13 rfl))))
  (e_Tok2
  (e_Lok (sm_imul (x_dk dn_362_0_0_ok 14 rfl)))
  (e_Tok2
  (e_Lok (sm_iadd (x_dk dn_362_0_0_ok 15 rfl)))
  (e_Lok (e_rt (I := eI) (k := 1) ⟨(x_dk dn_362_0_0_ok 16 rfl), rfl⟩)))))))
def te_362 : Nat → eE := te_362_0
theorem te_362_ok : ∀ pc, e_EOq eft cls elay eI n_362 pc (te_362 pc) := te_362_0_ok
theorem ho_363 : (xm_y n_363).cls = "RobotCellHouseModel" := rfl
def dn_363_0_0 : List (Nat × Instr × Nat) := [(0, .aload_n 0, 1), (1, .getfield 222, 3), (4, .aload_n 0, 1), (5, .getfield 654, 3), (8, .iload_n 1, 1), (9, .iastore, 1), (10, .aload_n 0, 1), (11, .dup, 1), (12, .getfield 654, 3), (15, .iconst 1, 1), (16, .iadd, 1), (17, .putfield 654, 3), (20, .return_, 1)]
set_option maxRecDepth 20000 in
theorem dn_363_0_0_ok : dn_363_0_0.all (fun q => decide (decode (xm_b n_363) q.1 = .ok (q.2.1, q.2.2))) = true := xa_g_ok (by decide +kernel)
def te_363_0 : Nat → eE := (e_T 9 (e_T 4 (e_T 0 (e_L 0 (0, ei_load 0 2 1, 0, 0)) (e_T 1 (e_L 1 (0, ei_getf eft elay 12 101 4, 0, 0)) (e_L 4 (0, ei_load 0 2 5, 0, 0)))) (e_T 5 (e_L 5 (0, ei_getf eft elay 12 102 8, 0, 0)) (e_T 8 (e_L 8 (0, ei_load 1 0 9, 0, 0)) (e_L 9 (0, ei_ast elay false 10, 0, 0))))) (e_T 12 (e_T 10 (e_L 10 (0, ei_load 0 2 11, 0, 0)) (e_T 11 (e_L 11 (0, ei_stk ef_dup 12, 0, 0)) (e_L 12 (0, ei_getf eft elay 12 102 15, 0, 0)))) (e_T 16 (e_T 15 (e_L 15 (0, ei_push (0, 1) 16, 0, 0)) (e_L 16 (0, ei_bin eF_add 17, 0, 0))) (e_T 17 (e_L 17 (0, ei_putf eft elay 12 102 0 20, 0, 0)) (e_L 20 (1, e_nof, 0, 0))))))
set_option maxRecDepth 20000 in
set_option maxHeartbeats 4000000 in
theorem te_363_0_ok : ∀ pc, e_EOq eft cls elay eI n_363 pc (te_363_0 pc) :=
  (e_Tok2
  (e_Tok2
  (e_Tok2
  (e_Lok (ld_aload_n_0 (x_dk dn_363_0_0_ok 0 rfl)))
  (e_Tok2
  (e_Lok (lk_12_222g ho_363 (x_dk dn_363_0_0_ok 1 rfl)))
  (e_Lok (ld_aload_n_0 (x_dk dn_363_0_0_ok 2 rfl)))))
  (e_Tok2
  (e_Lok (lk_12_654g ho_363 (x_dk dn_363_0_0_ok 3 rfl)))
  (e_Tok2
  (e_Lok (ld_iload_n_1 (x_dk dn_363_0_0_ok 4 rfl)))
  (e_Lok (sm_iastore (x_dk dn_363_0_0_ok 5 rfl))))))
  (e_Tok2
  (e_Tok2
  (e_Lok (ld_aload_n_0 (x_dk dn_363_0_0_ok 6 rfl)))
  (e_Tok2
  (e_Lok (e_st (I := eI) (er_dup (x_dk dn_363_0_0_ok 7 rfl)) (nx_stk bf_dup)))
  (e_Lok (lk_12_654g ho_363 (x_dk dn_363_0_0_ok 8 rfl)))))
  (e_Tok2
  (e_Tok2
  (e_Lok (ps_iconst_1 (x_dk dn_363_0_0_ok 9 rfl)))
  (e_Lok (sm_iadd (x_dk dn_363_0_0_ok 10 rfl))))
  (e_Tok2
  (e_Lok (lk_12_654p ho_363 (x_dk dn_363_0_0_ok 11 rfl)))
  (e_Lok (e_rt (I := eI) (k := 0) ⟨(x_dk dn_363_0_0_ok 12 rfl), rfl⟩))))))
def te_363 : Nat → eE := te_363_0
theorem te_363_ok : ∀ pc, e_EOq eft cls elay eI n_363 pc (te_363 pc) := te_363_0_ok
theorem ho_364 : (xm_y n_364).cls = "RobotCellHouseModel" := rfl
def dn_364_0_0 : List (Nat × Instr × Nat) := [(0, .aload_n 0, 1), (1, .dup, 1), (2, .getfield 654, 3), (5, .iconst 1, 1), (6, .isub, 1), (7, .putfield 654, 3), (10, .aload_n 0, 1), (11, .getfield 222, 3), (14, .aload_n 0, 1), (15, .getfield 654, 3), (18, .iaload, 1), (19, .ireturn, 1)]
set_option maxRecDepth 20000 in
theorem dn_364_0_0_ok : dn_364_0_0.all (fun q => decide (decode (xm_b n_364) q.1 = .ok (q.2.1, q.2.2))) = true := xa_g_ok (by decide +kernel)
def te_364_0 : Nat → eE := (e_T 7 (e_T 2 (e_T 0 (e_L 0 (0, ei_load 0 2 1, 0, 0)) (e_T 1 (e_L 1 (0, ei_stk ef_dup 2, 0, 0)) (e_L 2 (0, ei_getf eft elay 12 102 5, 0, 0)))) (e_T 5 (e_L 5 (0, ei_push (0, 1) 6, 0, 0)) (e_T 6 (e_L 6 (0, ei_bin eF_sub 7, 0, 0)) (e_L 7 (0, ei_putf eft elay 12 102 0 10, 0, 0))))) (e_T 14 (e_T 10 (e_L 10 (0, ei_load 0 2 11, 0, 0)) (e_T 11 (e_L 11 (0, ei_getf eft elay 12 101 14, 0, 0)) (e_L 14 (0, ei_load 0 2 15, 0, 0)))) (e_T 15 (e_L 15 (0, ei_getf eft elay 12 102 18, 0, 0)) (e_T 18 (e_L 18 (0, ei_ald elay false 19, 0, 0)) (e_L 19 (1, e_nof, 1, 0))))))
set_option maxRecDepth 20000 in
set_option maxHeartbeats 4000000 in
theorem te_364_0_ok : ∀ pc, e_EOq eft cls elay eI n_364 pc (te_364_0 pc) :=
  (e_Tok2
  (e_Tok2
  (e_Tok2
  (e_Lok (ld_aload_n_0 (x_dk dn_364_0_0_ok 0 rfl)))
  (e_Tok2
  (e_Lok (e_st (I := eI) (er_dup (x_dk dn_364_0_0_ok 1 rfl)) (nx_stk bf_dup)))
  (e_Lok (lk_12_654g ho_364 (x_dk dn_364_0_0_ok 2 rfl)))))
  (e_Tok2
  (e_Lok (ps_iconst_1 (x_dk dn_364_0_0_ok 3 rfl)))
  (e_Tok2
  (e_Lok (sm_isub (x_dk dn_364_0_0_ok 4 rfl)))
  (e_Lok (lk_12_654p ho_364 (x_dk dn_364_0_0_ok 5 rfl))))))
  (e_Tok2
  (e_Tok2
  (e_Lok (ld_aload_n_0 (x_dk dn_364_0_0_ok 6 rfl)))
  (e_Tok2
  (e_Lok (lk_12_222g ho_364 (x_dk dn_364_0_0_ok 7 rfl)))
  (e_Lok (ld_aload_n_0 (x_dk dn_364_0_0_ok 8 rfl)))))
  (e_Tok2
  (e_Lok (lk_12_654g ho_364 (x_dk dn_364_0_0_ok 9 rfl)))
  (e_Tok2
  (e_Lok (sm_iaload (x_dk dn_364_0_0_ok 10 rfl)))
  (e_Lok (e_rt (I := eI) (k := 1) ⟨(x_dk dn_364_0_0_ok 11 rfl), rfl⟩))))))
def te_364 : Nat → eE := te_364_0
theorem te_364_ok : ∀ pc, e_EOq eft cls elay eI n_364 pc (te_364 pc) := te_364_0_ok
end
end
-- part 41bb
section
noncomputable section
theorem ho_365 : (xm_y n_365).cls = "RobotCellHouseModel" := rfl
def dn_365_0_0 : List (Nat × Instr × Nat) := [(0, .aload_n 0, 1), (1, .getfield 8, 3), (4, .aload_n 0, 1), (5, .invokevirtual 657, 3), (8, .iload_n 1, 1), (9, .iastore, 1), (10, .return_, 1)]
set_option maxRecDepth 20000 in
theorem dn_365_0_0_ok : dn_365_0_0.all (fun q => decide (decode (xm_b n_365) q.1 = .ok (q.2.1, q.2.2))) = true := xa_g_ok (by decide +kernel)
def te_365_0 : Nat → eE := (e_T 4 (e_T 0 (e_L 0 (0, ei_load 0 2 1, 0, 0)) (e_T 1 (e_L 1 (0, ei_getf eft elay 12 0 4, 0, 0)) (e_L 4 (0, ei_load 0 2 5, 0, 0)))) (e_T 8 (e_T 5 (e_L 5 (2, e_nof, 362, 1)) (e_L 8 (0, ei_load 1 0 9, 0, 0))) (e_T 9 (e_L 9 (0, ei_ast elay false 10, 0, 0)) (e_L 10 (1, e_nof, 0, 0)))))
set_option maxRecDepth 20000 in
set_option maxHeartbeats 4000000 in
theorem te_365_0_ok : ∀ pc, e_EOq eft cls elay eI n_365 pc (te_365_0 pc) :=
  (e_Tok2
  (e_Tok2
  (e_Lok (ld_aload_n_0 (x_dk dn_365_0_0_ok 0 rfl)))
  (e_Tok2
  (e_Lok (lk_12_8g ho_365 (x_dk dn_365_0_0_ok 1 rfl)))
  (e_Lok (ld_aload_n_0 (x_dk dn_365_0_0_ok 2 rfl)))))
  (e_Tok2
  (e_Tok2
  (e_Lok (lk_12_657 ho_365 (x_dk dn_365_0_0_ok 3 rfl)))
  (e_Lok (ld_iload_n_1 (x_dk dn_365_0_0_ok 4 rfl))))
  (e_Tok2
  (e_Lok (sm_iastore (x_dk dn_365_0_0_ok 5 rfl)))
  (e_Lok (e_rt (I := eI) (k := 0) ⟨(x_dk dn_365_0_0_ok 6 rfl), rfl⟩)))))
def te_365 : Nat → eE := te_365_0
theorem te_365_ok : ∀ pc, e_EOq eft cls elay eI n_365 pc (te_365 pc) := te_365_0_ok
theorem ho_366 : (xm_y n_366).cls = "RobotCellHouseModel" := rfl
def dn_366_0_0 : List (Nat × Instr × Nat) := [(0, .aload_n 0, 1), (1, .iload_n 1, 1), (2, .putfield 660, 3), (5, .aload_n 0, 1), (6, .iload_n 1, 1), (7, .invokestatic 298, 3), (10, .putfield 651, 3), (13, .aload_n 0, 1), (14, .aload_n 0, 1), (15, .getfield 8, 3), (18, .aload_n 0, 1), (19, .getfield 651, 3), (22, .iconst 1, 1), (23, .iadd, 1), (24, .iaload, 1), (25, .putfield 663, 3), (28, .aload_n 0, 1), (29, .iconst 0, 1), (30, .putfield 666, 3), (33, .aload_n 0, 1), (34, .iconst 0, 1), (35, .putfield 654, 3), (38, .aload_n 0, 1), (39, .iconst 0, 1), (40, .putfield 669, 3)]
set_option maxRecDepth 20000 in
theorem dn_366_0_0_ok : dn_366_0_0.all (fun q => decide (decode (xm_b n_366) q.1 = .ok (q.2.1, q.2.2))) = true := xa_g_ok (by decide +kernel)
def dn_366_0_1 : List (Nat × Instr × Nat) := [(43, .aload_n 0, 1), (44, .getfield 8, 3), (47, .aload_n 0, 1), (48, .getfield 651, 3), (51, .iaload, 1), (52, .tableswitch 168 2 5 #[32, 100, 168, 132], 32), (84, .aload_n 0, 1), (85, .aload_n 0, 1), (86, .getfield 8, 3), (89, .aload_n 0, 1), (90, .getfield 663, 3), (93, .invokestatic 294, 3), (96, .iconst 0, 1), (97, .iadd, 1), (98, .iaload, 1), (99, .ifCond .eq 7, 3), (102, .iconst 1, 1), (103, .goto 4, 3), (106, .iconst 0, 1), (107, .putfield 669, 3), (110, .aload_n 0, 1), (111, .getfield 669, 3), (114, .ifCond .ne 106, 3), (117, .aload_n 0, 1), (118, .getfield 8, 3)]
set_option maxRecDepth 20000 in
theorem dn_366_0_1_ok : dn_366_0_1.all (fun q => decide (decode (xm_b n_366) q.1 = .ok (q.2.1, q.2.2))) = true := xa_g_ok (by decide +kernel)
def dn_366_0_2 : List (Nat × Instr × Nat) := [(121, .aload_n 0, 1), (122, .getfield 651, 3), (125, .iconst 1, 1), (126, .iastore, 1), (127, .aload_n 0, 1), (128, .getfield 8, 3), (131, .aload_n 0, 1), (132, .getfield 651, 3), (135, .bipush 7, 2), (137, .iadd, 1), (138, .iaload, 1), (139, .iconst 1, 1), (140, .if_icmp .ne 80, 3), (143, .aload_n 0, 1), (144, .bipush 6, 2), (146, .invokevirtual 672, 3), (149, .goto 71, 3), (152, .aload_n 0, 1), (153, .aload_n 0, 1), (154, .getfield 8, 3), (157, .iconst 0, 1), (158, .iaload, 1), (159, .aload_n 0, 1), (160, .getfield 8, 3), (163, .aload_n 0, 1)]
set_option maxRecDepth 20000 in
theorem dn_366_0_2_ok : dn_366_0_2.all (fun q => decide (decode (xm_b n_366) q.1 = .ok (q.2.1, q.2.2))) = true := xa_g_ok (by decide +kernel)
def dn_366_0_3 : List (Nat × Instr × Nat) := [(164, .getfield 651, 3), (167, .iconst 4, 1), (168, .iadd, 1), (169, .iaload, 1), (170, .if_icmp .ge 7, 3), (173, .iconst 1, 1), (174, .goto 4, 3), (177, .iconst 0, 1), (178, .putfield 669, 3), (181, .goto 39, 3), (184, .aload_n 0, 1), (185, .aload_n 0, 1), (186, .getfield 8, 3), (189, .sipush 20868, 3), (192, .aload_n 0, 1), (193, .getfield 8, 3), (196, .aload_n 0, 1), (197, .getfield 651, 3), (200, .iconst 5, 1), (201, .iadd, 1), (202, .iaload, 1), (203, .iadd, 1), (204, .iaload, 1), (205, .iload_n 1, 1), (206, .if_icmp .eq 7, 3)]
set_option maxRecDepth 20000 in
theorem dn_366_0_3_ok : dn_366_0_3.all (fun q => decide (decode (xm_b n_366) q.1 = .ok (q.2.1, q.2.2))) = true := xa_g_ok (by decide +kernel)
def dn_366_1_0 : List (Nat × Instr × Nat) := [(209, .iconst 1, 1), (210, .goto 4, 3), (213, .iconst 0, 1), (214, .putfield 669, 3), (217, .goto 3, 3), (220, .aload_n 0, 1), (221, .getfield 669, 3), (224, .ifCond .ne 41, 3), (227, .aload_n 0, 1), (228, .getfield 8, 3), (231, .aload_n 0, 1), (232, .getfield 651, 3), (235, .iaload, 1), (236, .bipush 6, 2), (238, .if_icmp .ge 27, 3), (241, .aload_n 0, 1), (242, .getfield 8, 3), (245, .aload_n 0, 1), (246, .getfield 651, 3), (249, .iconst 1, 1), (250, .iastore, 1), (251, .aload_n 0, 1), (252, .getfield 669, 3), (255, .ifCond .ne 10, 3), (258, .aload_n 0, 1)]
set_option maxRecDepth 20000 in
theorem dn_366_1_0_ok : dn_366_1_0.all (fun q => decide (decode (xm_b n_366) q.1 = .ok (q.2.1, q.2.2))) = true := xa_g_ok (by decide +kernel)
def dn_366_1_1 : List (Nat × Instr × Nat) := [(259, .invokevirtual 675, 3), (262, .goto (-11), 3), (265, .return_, 1)]
set_option maxRecDepth 20000 in
theorem dn_366_1_1_ok : dn_366_1_1.all (fun q => decide (decode (xm_b n_366) q.1 = .ok (q.2.1, q.2.2))) = true := xa_g_ok (by decide +kernel)
def te_366_0 : Nat → eE := (e_T 25 (e_T 13 (e_T 5 (e_T 1 (e_T 0 (e_L 0 (0, ei_load 0 2 1, 0, 0)) (e_L 1 (0, ei_load 1 0 2, 0, 0))) (e_T 2 (e_L 2 (0, ei_putf eft elay 12 96 0 5, 0, 0)) (e_L 5 (0, ei_load 0 2 6, 0, 0)))) (e_T 7 (e_T 6 (e_L 6 (0, ei_load 1 0 7, 0, 0)) (e_L 7 (2, e_nof, 269, 1))) (e_T 10 (e_L 10 (0, ei_putf eft elay 12 97 0 13, 0, 0)) (e_L 13 (0, ei_load 0 2 14, 0, 0))))) (e_T 19 (e_T 15 (e_T 14 (e_L 14 (0, ei_load 0 2 15, 0, 0)) (e_L 15 (0, ei_getf eft elay 12 0 18, 0, 0))) (e_T 18 (e_L 18 (0, ei_load 0 2 19, 0, 0)) (e_L 19 (0, ei_getf eft elay 12 97 22, 0, 0)))) (e_T 23 (e_T 22 (e_L 22 (0, ei_push (0, 1) 23, 0, 0)) (e_L 23 (0, ei_bin eF_add 24, 0, 0))) (e_T 24 (e_L 24 (0, ei_ald elay false 25, 0, 0)) (e_L 25 (0, ei_putf eft elay 12 98 0 28, 0, 0)))))) (e_T 39 (e_T 33 (e_T 29 (e_T 28 (e_L 28 (0, ei_load 0 2 29, 0, 0)) (e_L 29 (0, ei_push (0, 0) 30, 0, 0))) (e_T 30 (e_L 30 (0, ei_putf eft elay 12 99 0 33, 0, 0)) (e_L 33 (0, ei_load 0 2 34, 0, 0)))) (e_T 35 (e_T 34 (e_L 34 (0, ei_push (0, 0) 35, 0, 0)) (e_L 35 (0, ei_putf eft elay 12 102 0 38, 0, 0))) (e_T 38 (e_L 38 (0, ei_load 0 2 39, 0, 0)) (e_L 39 (0, ei_push (0, 0) 40, 0, 0))))) (e_T 47 (e_T 43 (e_T 40 (e_L 40 (0, ei_putf eft elay 12 100 1 43, 0, 0)) (e_L 43 (0, ei_load 0 2 44, 0, 0))) (e_T 44 (e_L 44 (0, ei_getf eft elay 12 0 47, 0, 0)) (e_L 47 (0, ei_load 0 2 48, 0, 0)))) (e_T 51 (e_T 48 (e_L 48 (0, ei_getf eft elay 12 97 51, 0, 0)) (e_L 51 (0, ei_ald elay false 52, 0, 0))) (e_T 52 (e_L 52 (0, ei_sw [((-2147483648), 1, 220), (2, 2, 84), (3, 3, 152), (4, 4, 220), (5, 5, 184), (6, 2147483647, 220)], 0, 0)) (e_L 84 (0, ei_load 0 2 85, 0, 0)))))))
set_option maxRecDepth 20000 in
set_option maxHeartbeats 4000000 in
theorem te_366_0_ok : ∀ pc, e_EOq eft cls elay eI n_366 pc (te_366_0 pc) :=
  (e_Tok2
  (e_Tok2
  (e_Tok2
  (e_Tok2
  (e_Tok2
  (e_Lok (ld_aload_n_0 (x_dk dn_366_0_0_ok 0 rfl)))
  (e_Lok (ld_iload_n_1 (x_dk dn_366_0_0_ok 1 rfl))))
  (e_Tok2
  (e_Lok (lk_12_660p ho_366 (x_dk dn_366_0_0_ok 2 rfl)))
  (e_Lok (ld_aload_n_0 (x_dk dn_366_0_0_ok 3 rfl)))))
  (e_Tok2
  (e_Tok2
  (e_Lok (ld_iload_n_1 (x_dk dn_366_0_0_ok 4 rfl)))
  (e_Lok (lk_12_298 ho_366 (x_dk dn_366_0_0_ok 5 rfl))))
  (e_Tok2
  (e_Lok (lk_12_651p ho_366 (x_dk dn_366_0_0_ok 6 rfl)))
  (e_Lok (ld_aload_n_0 (x_dk dn_366_0_0_ok 7 rfl))))))
  (e_Tok2
  (e_Tok2
  (e_Tok2
  (e_Lok (ld_aload_n_0 (x_dk dn_366_0_0_ok 8 rfl)))
  (e_Lok (lk_12_8g ho_366 (x_dk dn_366_0_0_ok 9 rfl))))
  (e_Tok2
  (e_Lok (ld_aload_n_0 (x_dk dn_366_0_0_ok 10 rfl)))
  (e_Lok (lk_12_651g ho_366 (x_dk dn_366_0_0_ok 11 rfl)))))
  (e_Tok2
  (e_Tok2
  (e_Lok (ps_iconst_1 (x_dk dn_366_0_0_ok 12 rfl)))
  (e_Lok (sm_iadd (x_dk dn_366_0_0_ok 13 rfl))))
  (e_Tok2
  (e_Lok (sm_iaload (x_dk dn_366_0_0_ok 14 rfl)))
  (e_Lok (lk_12_663p ho_366 (x_dk dn_366_0_0_ok 15 rfl)))))))
  (e_Tok2
  (e_Tok2
  (e_Tok2
  (e_Tok2
  (e_Lok (ld_aload_n_0 (x_dk dn_366_0_0_ok 16 rfl)))
  (e_Lok (ps_iconst_0 (x_dk dn_366_0_0_ok 17 rfl))))
  (e_Tok2
  (e_Lok (lk_12_666p ho_366 (x_dk dn_366_0_0_ok 18 rfl)))
  (e_Lok (ld_aload_n_0 (x_dk dn_366_0_0_ok 19 rfl)))))
  (e_Tok2
  (e_Tok2
  (e_Lok (ps_iconst_0 (x_dk dn_366_0_0_ok 20 rfl)))
  (e_Lok (lk_12_654p ho_366 (x_dk dn_366_0_0_ok 21 rfl))))
  (e_Tok2
  (e_Lok (ld_aload_n_0 (x_dk dn_366_0_0_ok 22 rfl)))
  (e_Lok (ps_iconst_0 (x_dk dn_366_0_0_ok 23 rfl))))))
  (e_Tok2
  (e_Tok2
  (e_Tok2
  (e_Lok (lk_12_669p ho_366 (x_dk dn_366_0_0_ok 24 rfl)))
  (e_Lok (ld_aload_n_0 (x_dk dn_366_0_1_ok 0 rfl))))
  (e_Tok2
  (e_Lok (lk_12_8g ho_366 (x_dk dn_366_0_1_ok 1 rfl)))
  (e_Lok (ld_aload_n_0 (x_dk dn_366_0_1_ok 2 rfl)))))
  (e_Tok2
  (e_Tok2
  (e_Lok (lk_12_651g ho_366 (x_dk dn_366_0_1_ok 3 rfl)))
  (e_Lok (sm_iaload (x_dk dn_366_0_1_ok 4 rfl))))
  (e_Tok2
  (e_Lok (e_st (I := eI) (er_tsw (dflt := 168) (lo := 2) (hi := 5) (offs := #[32, 100, 168, 132]) (len := 32) (n := 4) (x_dk dn_366_0_1_ok 5 rfl) (by decide) (by decide +kernel)) nx_sw))
  (e_Lok (ld_aload_n_0 (x_dk dn_366_0_1_ok 6 rfl))))))))
def te_366_32 : Nat → eE := (e_T 114 (e_T 98 (e_T 90 (e_T 86 (e_T 85 (e_L 85 (0, ei_load 0 2 86, 0, 0)) (e_L 86 (0, ei_getf eft elay 12 0 89, 0, 0))) (e_T 89 (e_L 89 (0, ei_load 0 2 90, 0, 0)) (e_L 90 (0, ei_getf eft elay 12 98 93, 0, 0)))) (e_T 96 (e_T 93 (e_L 93 (2, e_nof, 268, 1)) (e_L 96 (0, ei_push (0, 0) 97, 0, 0))) (e_T 97 (e_L 97 (0, ei_bin eF_add 98, 0, 0)) (e_L 98 (0, ei_ald elay false 99, 0, 0))))) (e_T 106 (e_T 102 (e_T 99 (e_L 99 (0, ei_if1 0 106 102, 0, 0)) (e_L 102 (0, ei_push (0, 1) 103, 0, 0))) (e_T 103 (e_L 103 (0, ei_goto 107, 0, 0)) (e_L 106 (0, ei_push (0, 0) 107, 0, 0)))) (e_T 110 (e_T 107 (e_L 107 (0, ei_putf eft elay 12 100 1 110, 0, 0)) (e_L 110 (0, ei_load 0 2 111, 0, 0))) (e_T 111 (e_L 111 (0, ei_getf eft elay 12 100 114, 0, 0)) (e_L 114 (0, ei_if1 1 220 117, 0, 0)))))) (e_T 128 (e_T 122 (e_T 118 (e_T 117 (e_L 117 (0, ei_load 0 2 118, 0, 0)) (e_L 118 (0, ei_getf eft elay 12 0 121, 0, 0))) (e_T 121 (e_L 121 (0, ei_load 0 2 122, 0, 0)) (e_L 122 (0, ei_getf eft elay 12 97 125, 0, 0)))) (e_T 126 (e_T 125 (e_L 125 (0, ei_push (0, 1) 126, 0, 0)) (e_L 126 (0, ei_ast elay false 127, 0, 0))) (e_T 127 (e_L 127 (0, ei_load 0 2 128, 0, 0)) (e_L 128 (0, ei_getf eft elay 12 0 131, 0, 0))))) (e_T 137 (e_T 132 (e_T 131 (e_L 131 (0, ei_load 0 2 132, 0, 0)) (e_L 132 (0, ei_getf eft elay 12 97 135, 0, 0))) (e_T 135 (e_L 135 (0, ei_push (0, 7) 137, 0, 0)) (e_L 137 (0, ei_bin eF_add 138, 0, 0)))) (e_T 139 (e_T 138 (e_L 138 (0, ei_ald elay false 139, 0, 0)) (e_L 139 (0, ei_push (0, 1) 140, 0, 0))) (e_T 140 (e_L 140 (0, ei_if2 1 220 143, 0, 0)) (e_L 143 (0, ei_load 0 2 144, 0, 0)))))))
set_option maxRecDepth 20000 in
set_option maxHeartbeats 4000000 in
theorem te_366_32_ok : ∀ pc, e_EOq eft cls elay eI n_366 pc (te_366_32 pc) :=
  (e_Tok2
  (e_Tok2
  (e_Tok2
  (e_Tok2
  (e_Tok2
  (e_Lok (ld_aload_n_0 (x_dk dn_366_0_1_ok 7 rfl)))
  (e_Lok (lk_12_8g ho_366 (x_dk dn_366_0_1_ok 8 rfl))))
  (e_Tok2
  (e_Lok (ld_aload_n_0 (x_dk dn_366_0_1_ok 9 rfl)))
  (e_Lok (lk_12_663g ho_366 (x_dk dn_366_0_1_ok 10 rfl)))))
  (e_Tok2
  (e_Tok2
  (e_Lok (lk_12_294 ho_366 (x_dk dn_366_0_1_ok 11 rfl)))
  (e_Lok (ps_iconst_0 (x_dk dn_366_0_1_ok 12 rfl))))
  (e_Tok2
  (e_Lok (sm_iadd (x_dk dn_366_0_1_ok 13 rfl)))
  (e_Lok (sm_iaload (x_dk dn_366_0_1_ok 14 rfl))))))
  (e_Tok2
  (e_Tok2
  (e_Tok2
  (e_Lok (e_st (I := eI) (er_ifeq (off := 7) (tg := 106) (x_dk dn_366_0_1_ok 15 rfl) (by decide)) nx_if1))
  (e_Lok (ps_iconst_1 (x_dk dn_366_0_1_ok 16 rfl))))
  (e_Tok2
  (e_Lok (e_st (I := eI) (er_goto (off := 4) (tg := 107) (x_dk dn_366_0_1_ok 17 rfl) (by decide)) nx_goto))
  (e_Lok (ps_iconst_0 (x_dk dn_366_0_1_ok 18 rfl)))))
  (e_Tok2
  (e_Tok2
  (e_Lok (lk_12_669p ho_366 (x_dk dn_366_0_1_ok 19 rfl)))
  (e_Lok (ld_aload_n_0 (x_dk dn_366_0_1_ok 20 rfl))))
  (e_Tok2
  (e_Lok (lk_12_669g ho_366 (x_dk dn_366_0_1_ok 21 rfl)))
  (e_Lok (e_st (I := eI) (er_ifne (off := 106) (tg := 220) (x_dk dn_366_0_1_ok 22 rfl) (by decide)) nx_if1))))))
  (e_Tok2
  (e_Tok2
  (e_Tok2
  (e_Tok2
  (e_Lok (ld_aload_n_0 (x_dk dn_366_0_1_ok 23 rfl)))
  (e_Lok (lk_12_8g ho_366 (x_dk dn_366_0_1_ok 24 rfl))))
  (e_Tok2
  (e_Lok (ld_aload_n_0 (x_dk dn_366_0_2_ok 0 rfl)))
  (e_Lok (lk_12_651g ho_366 (x_dk dn_366_0_2_ok 1 rfl)))))
  (e_Tok2
  (e_Tok2
  (e_Lok (ps_iconst_1 (x_dk dn_366_0_2_ok 2 rfl)))
  (e_Lok (sm_iastore (x_dk dn_366_0_2_ok 3 rfl))))
  (e_Tok2
  (e_Lok (ld_aload_n_0 (x_dk dn_366_0_2_ok 4 rfl)))
  (e_Lok (lk_12_8g ho_366 (x_dk dn_366_0_2_ok 5 rfl))))))
  (e_Tok2
  (e_Tok2
  (e_Tok2
  (e_Lok (ld_aload_n_0 (x_dk dn_366_0_2_ok 6 rfl)))
  (e_Lok (lk_12_651g ho_366 (x_dk dn_366_0_2_ok 7 rfl))))
  (e_Tok2
  (e_Lok (ps_bipush_7 (x_dk dn_366_0_2_ok 8 rfl)))
  (e_Lok (sm_iadd (x_dk dn_366_0_2_ok 9 rfl)))))
  (e_Tok2
  (e_Tok2
  (e_Lok (sm_iaload (x_dk dn_366_0_2_ok 10 rfl)))
  (e_Lok (ps_iconst_1 (x_dk dn_366_0_2_ok 11 rfl))))
  (e_Tok2
  (e_Lok (e_st (I := eI) (er_icmpne (off := 80) (tg := 220) (x_dk dn_366_0_2_ok 12 rfl) (by decide)) nx_if2))
  (e_Lok (ld_aload_n_0 (x_dk dn_366_0_2_ok 13 rfl))))))))
def te_366_64 : Nat → eE := (e_T 170 (e_T 158 (e_T 152 (e_T 146 (e_T 144 (e_L 144 (0, ei_push (0, 6) 146, 0, 0)) (e_L 146 (2, e_nof, 369, 2))) (e_T 149 (e_L 149 (0, ei_goto 220, 0, 0)) (e_L 152 (0, ei_load 0 2 153, 0, 0)))) (e_T 154 (e_T 153 (e_L 153 (0, ei_load 0 2 154, 0, 0)) (e_L 154 (0, ei_getf eft elay 12 0 157, 0, 0))) (e_T 157 (e_L 157 (0, ei_push (0, 0) 158, 0, 0)) (e_L 158 (0, ei_ald elay false 159, 0, 0))))) (e_T 164 (e_T 160 (e_T 159 (e_L 159 (0, ei_load 0 2 160, 0, 0)) (e_L 160 (0, ei_getf eft elay 12 0 163, 0, 0))) (e_T 163 (e_L 163 (0, ei_load 0 2 164, 0, 0)) (e_L 164 (0, ei_getf eft elay 12 97 167, 0, 0)))) (e_T 168 (e_T 167 (e_L 167 (0, ei_push (0, 4) 168, 0, 0)) (e_L 168 (0, ei_bin eF_add 169, 0, 0))) (e_T 169 (e_L 169 (0, ei_ald elay false 170, 0, 0)) (e_L 170 (0, ei_if2 3 177 173, 0, 0)))))) (e_T 186 (e_T 178 (e_T 174 (e_T 173 (e_L 173 (0, ei_push (0, 1) 174, 0, 0)) (e_L 174 (0, ei_goto 178, 0, 0))) (e_T 177 (e_L 177 (0, ei_push (0, 0) 178, 0, 0)) (e_L 178 (0, ei_putf eft elay 12 100 1 181, 0, 0)))) (e_T 184 (e_T 181 (e_L 181 (0, ei_goto 220, 0, 0)) (e_L 184 (0, ei_load 0 2 185, 0, 0))) (e_T 185 (e_L 185 (0, ei_load 0 2 186, 0, 0)) (e_L 186 (0, ei_getf eft elay 12 0 189, 0, 0))))) (e_T 196 (e_T 192 (e_T 189 (e_L 189 (0, ei_push (0, 20868) 192, 0, 0)) (e_L 192 (0, ei_load 0 2 193, 0, 0))) (e_T 193 (e_L 193 (0, ei_getf eft elay 12 0 196, 0, 0)) (e_L 196 (0, ei_load 0 2 197, 0, 0)))) (e_T 200 (e_T 197 (e_L 197 (0, ei_getf eft elay 12 97 200, 0, 0)) (e_L 200 (0, ei_push (0, 5) 201, 0, 0))) (e_T 201 (e_L 201 (0, ei_bin eF_add 202, 0, 0)) (e_L 202 (0, ei_ald elay false 203, 0, 0)))))))
set_option maxRecDepth 20000 in
set_option maxHeartbeats 4000000 in
theorem te_366_64_ok : ∀ pc, e_EOq eft cls elay eI n_366 pc (te_366_64 pc) :=
  (e_Tok2
  (e_Tok2
  (e_Tok2
  (e_Tok2
  (e_Tok2
  (e_Lok (ps_bipush_6 (x_dk dn_366_0_2_ok 14 rfl)))
  (e_Lok (lk_12_672 ho_366 (x_dk dn_366_0_2_ok 15 rfl))))
  (e_Tok2
  (e_Lok (e_st (I := eI) (er_goto (off := 71) (tg := 220) (x_dk dn_366_0_2_ok 16 rfl) (by decide)) nx_goto))
  (e_Lok (ld_aload_n_0 (x_dk dn_366_0_2_ok 17 rfl)))))
  (e_Tok2
  (e_Tok2
  (e_Lok (ld_aload_n_0 (x_dk dn_366_0_2_ok 18 rfl)))
  (e_Lok (lk_12_8g ho_366 (x_dk dn_366_0_2_ok 19 rfl))))
  (e_Tok2
  (e_Lok (ps_iconst_0 (x_dk dn_366_0_2_ok 20 rfl)))
  (e_Lok (sm_iaload (x_dk dn_366_0_2_ok 21 rfl))))))
  (e_Tok2
  (e_Tok2
  (e_Tok2
  (e_Lok (ld_aload_n_0 (x_dk dn_366_0_2_ok 22 rfl)))
  (e_Lok (lk_12_8g ho_366 (x_dk dn_366_0_2_ok 23 rfl))))
  (e_Tok2
  (e_Lok (ld_aload_n_0 (x_dk dn_366_0_2_ok 24 rfl)))
  (e_Lok (lk_12_651g ho_366 (x_dk dn_366_0_3_ok 0 rfl)))))
  (e_Tok2
  (e_Tok2
  (e_Lok (ps_iconst_4 (x_dk dn_366_0_3_ok 1 rfl)))
  (e_Lok (sm_iadd (x_dk dn_366_0_3_ok 2 rfl))))
  (e_Tok2
  (e_Lok (sm_iaload (x_dk dn_366_0_3_ok 3 rfl)))
  (e_Lok (e_st (I := eI) (er_icmpge (off := 7) (tg := 177) (x_dk dn_366_0_3_ok 4 rfl) (by decide)) nx_if2))))))
  (e_Tok2
  (e_Tok2
  (e_Tok2
  (e_Tok2
  (e_Lok (ps_iconst_1 (x_dk dn_366_0_3_ok 5 rfl)))
  (e_Lok (e_st (I := eI) (er_goto (off := 4) (tg := 178) (x_dk dn_366_0_3_ok 6 rfl) (by decide)) nx_goto)))
  (e_Tok2
  (e_Lok (ps_iconst_0 (x_dk dn_366_0_3_ok 7 rfl)))
  (e_Lok (lk_12_669p ho_366 (x_dk dn_366_0_3_ok 8 rfl)))))
  (e_Tok2
  (e_Tok2
  (e_Lok (e_st (I := eI) (er_goto (off := 39) (tg := 220) (x_dk dn_366_0_3_ok 9 rfl) (by decide)) nx_goto))
  (e_Lok (ld_aload_n_0 (x_dk dn_366_0_3_ok 10 rfl))))
  (e_Tok2
  (e_Lok (ld_aload_n_0 (x_dk dn_366_0_3_ok 11 rfl)))
  (e_Lok (lk_12_8g ho_366 (x_dk dn_366_0_3_ok 12 rfl))))))
  (e_Tok2
  (e_Tok2
  (e_Tok2
  (e_Lok (ps_sipush_20868 (x_dk dn_366_0_3_ok 13 rfl)))
  (e_Lok (ld_aload_n_0 (x_dk dn_366_0_3_ok 14 rfl))))
  (e_Tok2
  (e_Lok (lk_12_8g ho_366 (x_dk dn_366_0_3_ok 15 rfl)))
  (e_Lok (ld_aload_n_0 (x_dk dn_366_0_3_ok 16 rfl)))))
  (e_Tok2
  (e_Tok2
  (e_Lok (lk_12_651g ho_366 (x_dk dn_366_0_3_ok 17 rfl)))
  (e_Lok (ps_iconst_5 (x_dk dn_366_0_3_ok 18 rfl))))
  (e_Tok2
  (e_Lok (sm_iadd (x_dk dn_366_0_3_ok 19 rfl)))
  (e_Lok (sm_iaload (x_dk dn_366_0_3_ok 20 rfl))))))))
def te_366_96 : Nat → eE := (e_T 232 (e_T 214 (e_T 206 (e_T 204 (e_T 203 (e_L 203 (0, ei_bin eF_add 204, 0, 0)) (e_L 204 (0, ei_ald elay false 205, 0, 0))) (e_T 205 (e_L 205 (0, ei_load 1 0 206, 0, 0)) (e_L 206 (0, ei_if2 0 213 209, 0, 0)))) (e_T 210 (e_T 209 (e_L 209 (0, ei_push (0, 1) 210, 0, 0)) (e_L 210 (0, ei_goto 214, 0, 0))) (e_T 213 (e_L 213 (0, ei_push (0, 0) 214, 0, 0)) (e_L 214 (0, ei_putf eft elay 12 100 1 217, 0, 0))))) (e_T 224 (e_T 220 (e_T 217 (e_L 217 (0, ei_goto 220, 0, 0)) (e_L 220 (0, ei_load 0 2 221, 0, 0))) (e_T 221 (e_L 221 (0, ei_getf eft elay 12 100 224, 0, 0)) (e_L 224 (0, ei_if1 1 265 227, 0, 0)))) (e_T 228 (e_T 227 (e_L 227 (0, ei_load 0 2 228, 0, 0)) (e_L 228 (0, ei_getf eft elay 12 0 231, 0, 0))) (e_T 231 (e_L 231 (0, ei_load 0 2 232, 0, 0)) (e_L 232 (0, ei_getf eft elay 12 97 235, 0, 0)))))) (e_T 249 (e_T 241 (e_T 236 (e_T 235 (e_L 235 (0, ei_ald elay false 236, 0, 0)) (e_L 236 (0, ei_push (0, 6) 238, 0, 0))) (e_T 238 (e_L 238 (0, ei_if2 3 265 241, 0, 0)) (e_L 241 (0, ei_load 0 2 242, 0, 0)))) (e_T 245 (e_T 242 (e_L 242 (0, ei_getf eft elay 12 0 245, 0, 0)) (e_L 245 (0, ei_load 0 2 246, 0, 0))) (e_T 246 (e_L 246 (0, ei_getf eft elay 12 97 249, 0, 0)) (e_L 249 (0, ei_push (0, 1) 250, 0, 0))))) (e_T 255 (e_T 251 (e_T 250 (e_L 250 (0, ei_ast elay false 251, 0, 0)) (e_L 251 (0, ei_load 0 2 252, 0, 0))) (e_T 252 (e_L 252 (0, ei_getf eft elay 12 100 255, 0, 0)) (e_L 255 (0, ei_if1 1 265 258, 0, 0)))) (e_T 259 (e_T 258 (e_L 258 (0, ei_load 0 2 259, 0, 0)) (e_L 259 (2, e_nof, 373, 1))) (e_T 262 (e_L 262 (0, ei_goto 251, 0, 0)) (e_L 265 (1, e_nof, 0, 0)))))))
set_option maxRecDepth 20000 in
set_option maxHeartbeats 4000000 in
theorem te_366_96_ok : ∀ pc, e_EOq eft cls elay eI n_366 pc (te_366_96 pc) :=
  (e_Tok2
  (e_Tok2
  (e_Tok2
  (e_Tok2
  (e_Tok2
  (e_Lok (sm_iadd (x_dk dn_366_0_3_ok 21 rfl)))
  (e_Lok (sm_iaload (x_dk dn_366_0_3_ok 22 rfl))))
  (e_Tok2
  (e_Lok (ld_iload_n_1 (x_dk dn_366_0_3_ok 23 rfl)))
  (e_Lok (e_st (I := eI) (er_icmpeq (off := 7) (tg := 213) (x_dk dn_366_0_3_ok 24 rfl) (by decide)) nx_if2))))
  (e_Tok2
  (e_Tok2
  (e_Lok (ps_iconst_1 (x_dk dn_366_1_0_ok 0 rfl)))
  (e_Lok (e_st (I := eI) (er_goto (off := 4) (tg := 214) (x_dk dn_366_1_0_ok 1 rfl) (by decide)) nx_goto)))
  (e_Tok2
  (e_Lok (ps_iconst_0 (x_dk dn_366_1_0_ok 2 rfl)))
  (e_Lok (lk_12_669p ho_366 (x_dk dn_366_1_0_ok 3 rfl))))))
  (e_Tok2
  (e_Tok2
  (e_Tok2
  (e_Lok (e_st (I := eI) (er_goto (off := 3) (tg := 220) (x_dk dn_366_1_0_ok 4 rfl) (by decide)) nx_goto))
  (e_Lok (ld_aload_n_0 (x_dk dn_366_1_0_ok 5 rfl))))
  (e_Tok2
  (e_Lok (lk_12_669g ho_366 (x_dk dn_366_1_0_ok 6 rfl)))
  (e_Lok (e_st (I := eI) (er_ifne (off := 41) (tg := 265) (x_dk dn_366_1_0_ok 7 rfl) (by decide)) nx_if1))))
  (e_Tok2
  (e_Tok2
  (e_Lok (ld_aload_n_0 (x_dk dn_366_1_0_ok 8 rfl)))
  (e_Lok (lk_12_8g ho_366 (x_dk dn_366_1_0_ok 9 rfl))))
  (e_Tok2
  (e_Lok (ld_aload_n_0 (x_dk dn_366_1_0_ok 10 rfl)))
  (e_Lok (lk_12_651g ho_366 (x_dk dn_366_1_0_ok 11 rfl)))))))
  (e_Tok2
  (e_Tok2
  (e_Tok2
  (e_Tok2
  (e_Lok (sm_iaload (x_dk dn_366_1_0_ok 12 rfl)))
  (e_Lok (ps_bipush_6 (x_dk dn_366_1_0_ok 13 rfl))))
  (e_Tok2
  (e_Lok (e_st (I := eI) (er_icmpge (off := 27) (tg := 265) (x_dk dn_366_1_0_ok 14 rfl) (by decide)) nx_if2))
  (e_Lok (ld_aload_n_0 (x_dk dn_366_1_0_ok 15 rfl)))))
  (e_Tok2
  (e_Tok2
  (e_Lok (lk_12_8g ho_366 (x_dk dn_366_1_0_ok 16 rfl)))
  (e_Lok (ld_aload_n_0 (x_dk dn_366_1_0_ok 17 rfl))))
  (e_Tok2
  (e_Lok (lk_12_651g ho_366 (x_dk dn_366_1_0_ok 18 rfl)))
  (e_Lok (ps_iconst_1 (x_dk dn_366_1_0_ok 19 rfl))))))
  (e_Tok2
  (e_Tok2
  (e_Tok2
  (e_Lok (sm_iastore (x_dk dn_366_1_0_ok 20 rfl)))
  (e_Lok (ld_aload_n_0 (x_dk dn_366_1_0_ok 21 rfl))))
  (e_Tok2
  (e_Lok (lk_12_669g ho_366 (x_dk dn_366_1_0_ok 22 rfl)))
  (e_Lok (e_st (I := eI) (er_ifne (off := 10) (tg := 265) (x_dk dn_366_1_0_ok 23 rfl) (by decide)) nx_if1))))
  (e_Tok2
  (e_Tok2
  (e_Lok (ld_aload_n_0 (x_dk dn_366_1_0_ok 24 rfl)))
  (e_Lok (lk_12_675 ho_366 (x_dk dn_366_1_1_ok 0 rfl))))
  (e_Tok2
  (e_Lok (e_st (I := eI) (er_goto (off := (-11)) (tg := 251) (x_dk dn_366_1_1_ok 1 rfl) (by decide)) nx_goto))
  (e_Lok (e_rt (I := eI) (k := 0) ⟨(x_dk dn_366_1_1_ok 2 rfl), rfl⟩)))))))
def te_366 : Nat → eE := (e_T 143 (e_T 84 te_366_0 te_366_32) (e_T 202 te_366_64 te_366_96))
theorem te_366_ok : ∀ pc, e_EOq eft cls elay eI n_366 pc (te_366 pc) := (e_Tok2 ((e_Tok2 (te_366_0_ok) (te_366_32_ok))) ((e_Tok2 (te_366_64_ok) (te_366_96_ok))))
theorem ho_367 : (xm_y n_367).cls = "RobotCellHouseModel" := rfl
def dn_367_0_0 : List (Nat × Instr × Nat) := [(0, .aload_n 0, 1), (1, .getfield 8, 3), (4, .aload_n 0, 1), (5, .getfield 651, 3), (8, .bipush 12, 2), (10, .iadd, 1), (11, .iaload, 1), (12, .bipush 20, 2), (14, .if_icmp .ne 10, 3), (17, .aload_n 0, 1), (18, .bipush 8, 2), (20, .invokevirtual 672, 3), (23, .return_, 1), (24, .aload_n 0, 1), (25, .getfield 8, 3), (28, .aload_n 0, 1), (29, .getfield 651, 3), (32, .bipush 12, 2), (34, .iadd, 1), (35, .dup2, 1), (36, .iaload, 1), (37, .iconst 1, 1), (38, .iadd, 1), (39, .iastore, 1), (40, .aload_n 0, 1)]
set_option maxRecDepth 20000 in
theorem dn_367_0_0_ok : dn_367_0_0.all (fun q => decide (decode (xm_b n_367) q.1 = .ok (q.2.1, q.2.2))) = true := xa_g_ok (by decide +kernel)
def dn_367_0_1 : List (Nat × Instr × Nat) := [(41, .aload_n 0, 1), (42, .getfield 198, 3), (45, .bipush 32, 2), (47, .aload_n 0, 1), (48, .getfield 663, 3), (51, .imul, 1), (52, .iload_n 1, 1), (53, .iadd, 1), (54, .iaload, 1), (55, .invokevirtual 678, 3), (58, .aload_n 0, 1), (59, .getfield 8, 3), (62, .aload_n 0, 1), (63, .invokevirtual 657, 3), (66, .iconst 1, 1), (67, .iadd, 1), (68, .iload_n 2, 1), (69, .iastore, 1), (70, .aload_n 0, 1), (71, .getfield 8, 3), (74, .aload_n 0, 1), (75, .getfield 651, 3), (78, .bipush 14, 2), (80, .iadd, 1), (81, .dup2, 1)]
set_option maxRecDepth 20000 in
theorem dn_367_0_1_ok : dn_367_0_1.all (fun q => decide (decode (xm_b n_367) q.1 = .ok (q.2.1, q.2.2))) = true := xa_g_ok (by decide +kernel)
def dn_367_0_2 : List (Nat × Instr × Nat) := [(82, .iaload, 1), (83, .iload_n 2, 1), (84, .iadd, 1), (85, .iastore, 1), (86, .return_, 1)]
set_option maxRecDepth 20000 in
theorem dn_367_0_2_ok : dn_367_0_2.all (fun q => decide (decode (xm_b n_367) q.1 = .ok (q.2.1, q.2.2))) = true := xa_g_ok (by decide +kernel)
def te_367_0 : Nat → eE := (e_T 23 (e_T 10 (e_T 4 (e_T 0 (e_L 0 (0, ei_load 0 2 1, 0, 0)) (e_T 1 (e_L 1 (0, ei_getf eft elay 12 0 4, 0, 0)) (e_L 4 (0, ei_load 0 2 5, 0, 0)))) (e_T 5 (e_L 5 (0, ei_getf eft elay 12 97 8, 0, 0)) (e_T 8 (e_L 8 (0, ei_push (0, 12) 10, 0, 0)) (e_L 10 (0, ei_bin eF_add 11, 0, 0))))) (e_T 14 (e_T 11 (e_L 11 (0, ei_ald elay false 12, 0, 0)) (e_T 12 (e_L 12 (0, ei_push (0, 20) 14, 0, 0)) (e_L 14 (0, ei_if2 1 24 17, 0, 0)))) (e_T 18 (e_T 17 (e_L 17 (0, ei_load 0 2 18, 0, 0)) (e_L 18 (0, ei_push (0, 8) 20, 0, 0))) (e_T 20 (e_L 20 (2, e_nof, 369, 2)) (e_L 23 (1, e_nof, 0, 0)))))) (e_T 35 (e_T 28 (e_T 24 (e_L 24 (0, ei_load 0 2 25, 0, 0)) (e_T 25 (e_L 25 (0, ei_getf eft elay 12 0 28, 0, 0)) (e_L 28 (0, ei_load 0 2 29, 0, 0)))) (e_T 32 (e_T 29 (e_L 29 (0, ei_getf eft elay 12 97 32, 0, 0)) (e_L 32 (0, ei_push (0, 12) 34, 0, 0))) (e_T 34 (e_L 34 (0, ei_bin eF_add 35, 0, 0)) (e_L 35 (0, ei_stk ef_dup2 36, 0, 0))))) (e_T 38 (e_T 36 (e_L 36 (0, ei_ald elay false 37, 0, 0)) (e_T 37 (e_L 37 (0, ei_push (0, 1) 38, 0, 0)) (e_L 38 (0, ei_bin eF_add 39, 0, 0)))) (e_T 40 (e_T 39 (e_L 39 (0, ei_ast elay false 40, 0, 0)) (e_L 40 (0, ei_load 0 2 41, 0, 0))) (e_T 41 (e_L 41 (0, ei_load 0 2 42, 0, 0)) (e_L 42 (0, ei_getf eft elay 12 74 45, 0, 0)))))))
set_option maxRecDepth 20000 in
set_option maxHeartbeats 4000000 in
theorem te_367_0_ok : ∀ pc, e_EOq eft cls elay eI n_367 pc (te_367_0 pc) :=
  (e_Tok2
  (e_Tok2
  (e_Tok2
  (e_Tok2
  (e_Lok (ld_aload_n_0 (x_dk dn_367_0_0_ok 0 rfl)))
  (e_Tok2
  (e_Lok (lk_12_8g ho_367 (x_dk dn_367_0_0_ok 1 rfl)))
  (e_Lok (ld_aload_n_0 (x_dk dn_367_0_0_ok 2 rfl)))))
  (e_Tok2
  (e_Lok (lk_12_651g ho_367 (x_dk dn_367_0_0_ok 3 rfl)))
  (e_Tok2
  (e_Lok (ps_bipush_12 (x_dk dn_367_0_0_ok 4 rfl)))
  (e_Lok (sm_iadd (x_dk dn_367_0_0_ok 5 rfl))))))
  (e_Tok2
  (e_Tok2
  (e_Lok (sm_iaload (x_dk dn_367_0_0_ok 6 rfl)))
  (e_Tok2
  (e_Lok (ps_bipush_20 (x_dk dn_367_0_0_ok 7 rfl)))
  (e_Lok (e_st (I := eI) (er_icmpne (off := 10) (tg := 24) (x_dk dn_367_0_0_ok 8 rfl) (by decide)) nx_if2))))
  (e_Tok2
  (e_Tok2
  (e_Lok (ld_aload_n_0 (x_dk dn_367_0_0_ok 9 rfl)))
  (e_Lok (ps_bipush_8 (x_dk dn_367_0_0_ok 10 rfl))))
  (e_Tok2
  (e_Lok (lk_12_672 ho_367 (x_dk dn_367_0_0_ok 11 rfl)))
  (e_Lok (e_rt (I := eI) (k := 0) ⟨(x_dk dn_367_0_0_ok 12 rfl), rfl⟩))))))
  (e_Tok2
  (e_Tok2
  (e_Tok2
  (e_Lok (ld_aload_n_0 (x_dk dn_367_0_0_ok 13 rfl)))
  (e_Tok2
  (e_Lok (lk_12_8g ho_367 (x_dk dn_367_0_0_ok 14 rfl)))
  (e_Lok (ld_aload_n_0 (x_dk dn_367_0_0_ok 15 rfl)))))
  (e_Tok2
  (e_Tok2
  (e_Lok (lk_12_651g ho_367 (x_dk dn_367_0_0_ok 16 rfl)))
  (e_Lok (ps_bipush_12 (x_dk dn_367_0_0_ok 17 rfl))))
  (e_Tok2
  (e_Lok (sm_iadd (x_dk dn_367_0_0_ok 18 rfl)))
  (e_Lok (e_st (I := eI) (er_dup2 (x_dk dn_367_0_0_ok 19 rfl)) (nx_stk bf_dup2))))))
  (e_Tok2
  (e_Tok2
  (e_Lok (sm_iaload (x_dk dn_367_0_0_ok 20 rfl)))
  (e_Tok2
  (e_Lok (ps_iconst_1 (x_dk dn_367_0_0_ok 21 rfl)))
  (e_Lok (sm_iadd (x_dk dn_367_0_0_ok 22 rfl)))))
  (e_Tok2
  (e_Tok2
  (e_Lok (sm_iastore (x_dk dn_367_0_0_ok 23 rfl)))
  (e_Lok (ld_aload_n_0 (x_dk dn_367_0_0_ok 24 rfl))))
  (e_Tok2
  (e_Lok (ld_aload_n_0 (x_dk dn_367_0_1_ok 0 rfl)))
  (e_Lok (lk_12_198g ho_367 (x_dk dn_367_0_1_ok 1 rfl))))))))
def te_367_27 : Nat → eE := (e_T 67 (e_T 54 (e_T 48 (e_T 45 (e_L 45 (0, ei_push (0, 32) 47, 0, 0)) (e_T 47 (e_L 47 (0, ei_load 0 2 48, 0, 0)) (e_L 48 (0, ei_getf eft elay 12 98 51, 0, 0)))) (e_T 52 (e_T 51 (e_L 51 (0, ei_bin eF_mul 52, 0, 0)) (e_L 52 (0, ei_load 1 0 53, 0, 0))) (e_T 53 (e_L 53 (0, ei_bin eF_add 54, 0, 0)) (e_L 54 (0, ei_ald elay false 55, 0, 0))))) (e_T 59 (e_T 55 (e_L 55 (2, e_nof, 365, 2)) (e_T 58 (e_L 58 (0, ei_load 0 2 59, 0, 0)) (e_L 59 (0, ei_getf eft elay 12 0 62, 0, 0)))) (e_T 63 (e_T 62 (e_L 62 (0, ei_load 0 2 63, 0, 0)) (e_L 63 (2, e_nof, 362, 1))) (e_T 66 (e_L 66 (0, ei_push (0, 1) 67, 0, 0)) (e_L 67 (0, ei_bin eF_add 68, 0, 0)))))) (e_T 78 (e_T 70 (e_T 68 (e_L 68 (0, ei_load 2 0 69, 0, 0)) (e_T 69 (e_L 69 (0, ei_ast elay false 70, 0, 0)) (e_L 70 (0, ei_load 0 2 71, 0, 0)))) (e_T 74 (e_T 71 (e_L 71 (0, ei_getf eft elay 12 0 74, 0, 0)) (e_L 74 (0, ei_load 0 2 75, 0, 0))) (e_T 75 (e_L 75 (0, ei_getf eft elay 12 97 78, 0, 0)) (e_L 78 (0, ei_push (0, 14) 80, 0, 0))))) (e_T 82 (e_T 80 (e_L 80 (0, ei_bin eF_add 81, 0, 0)) (e_T 81 (e_L 81 (0, ei_stk ef_dup2 82, 0, 0)) (e_L 82 (0, ei_ald elay false 83, 0, 0)))) (e_T 84 (e_T 83 (e_L 83 (0, ei_load 2 0 84, 0, 0)) (e_L 84 (0, ei_bin eF_add 85, 0, 0))) (e_T 85 (e_L 85 (0, ei_ast elay false 86, 0, 0)) (e_L 86 (1, e_nof, 0, 0)))))))
set_option maxRecDepth 20000 in
set_option maxHeartbeats 4000000 in
theorem te_367_27_ok : ∀ pc, e_EOq eft cls elay eI n_367 pc (te_367_27 pc) :=
  (e_Tok2
  (e_Tok2
  (e_Tok2
  (e_Tok2
  (e_Lok (ps_bipush_32 (x_dk dn_367_0_1_ok 2 rfl)))
  (e_Tok2
  (e_Lok (ld_aload_n_0 (x_dk dn_367_0_1_ok 3 rfl)))
  (e_Lok (lk_12_663g ho_367 (x_dk dn_367_0_1_ok 4 rfl)))))
  (e_Tok2
  (e_Tok2
  (e_Lok (sm_imul (x_dk dn_367_0_1_ok 5 rfl)))
  (e_Lok (ld_iload_n_1 (x_dk dn_367_0_1_ok 6 rfl))))
  (e_Tok2
  (e_Lok (sm_iadd (x_dk dn_367_0_1_ok 7 rfl)))
  (e_Lok (sm_iaload (x_dk dn_367_0_1_ok 8 rfl))))))
  (e_Tok2
  (e_Tok2
  (e_Lok (lk_12_678 ho_367 (x_dk dn_367_0_1_ok 9 rfl)))
  (e_Tok2
  (e_Lok (ld_aload_n_0 (x_dk dn_367_0_1_ok 10 rfl)))
  (e_Lok (lk_12_8g ho_367 (x_dk dn_367_0_1_ok 11 rfl)))))
  (e_Tok2
  (e_Tok2
  (e_Lok (ld_aload_n_0 (x_dk dn_367_0_1_ok 12 rfl)))
  (e_Lok (lk_12_657 ho_367 (x_dk dn_367_0_1_ok 13 rfl))))
  (e_Tok2
  (e_Lok (ps_iconst_1 (x_dk dn_367_0_1_ok 14 rfl)))
  (e_Lok (sm_iadd (x_dk dn_367_0_1_ok 15 rfl)))))))
  (e_Tok2
  (e_Tok2
  (e_Tok2
  (e_Lok (ld_iload_n_2 (x_dk dn_367_0_1_ok 16 rfl)))
  (e_Tok2
  (e_Lok (sm_iastore (x_dk dn_367_0_1_ok 17 rfl)))
  (e_Lok (ld_aload_n_0 (x_dk dn_367_0_1_ok 18 rfl)))))
  (e_Tok2
  (e_Tok2
  (e_Lok (lk_12_8g ho_367 (x_dk dn_367_0_1_ok 19 rfl)))
  (e_Lok (ld_aload_n_0 (x_dk dn_367_0_1_ok 20 rfl))))
  (e_Tok2
  (e_Lok (lk_12_651g ho_367 (x_dk dn_367_0_1_ok 21 rfl)))
  (e_Lok (ps_bipush_14 (x_dk dn_367_0_1_ok 22 rfl))))))
  (e_Tok2
  (e_Tok2
  (e_Lok (sm_iadd (x_dk dn_367_0_1_ok 23 rfl)))
  (e_Tok2
  (e_Lok (e_st (I := eI) (er_dup2 (x_dk dn_367_0_1_ok 24 rfl)) (nx_stk bf_dup2)))
  (e_Lok (sm_iaload (x_dk dn_367_0_2_ok 0 rfl)))))
  (e_Tok2
  (e_Tok2
  (e_Lok (ld_iload_n_2 (x_dk dn_367_0_2_ok 1 rfl)))
  (e_Lok (sm_iadd (x_dk dn_367_0_2_ok 2 rfl))))
  (e_Tok2
  (e_Lok (sm_iastore (x_dk dn_367_0_2_ok 3 rfl)))
  (e_Lok (e_rt (I := eI) (k := 0) ⟨(x_dk dn_367_0_2_ok 4 rfl), rfl⟩)))))))
def te_367 : Nat → eE := (e_T 42 te_367_0 te_367_27)
theorem te_367_ok : ∀ pc, e_EOq eft cls elay eI n_367 pc (te_367 pc) := (e_Tok2 (te_367_0_ok) (te_367_27_ok))
theorem ho_368 : (xm_y n_368).cls = "RobotCellHouseModel" := rfl
def dn_368_0_0 : List (Nat × Instr × Nat) := [(0, .aload_n 0, 1), (1, .iconst 0, 1), (2, .putfield 654, 3), (5, .aload_n 0, 1), (6, .getfield 666, 3), (9, .bipush 20, 2), (11, .if_icmp .ne 9, 3), (14, .aload_n 0, 1), (15, .iconst 1, 1), (16, .putfield 669, 3), (19, .return_, 1), (20, .aload_n 0, 1), (21, .getfield 8, 3), (24, .aload_n 0, 1), (25, .getfield 651, 3), (28, .bipush 8, 2), (30, .iadd, 1), (31, .iaload, 1), (32, .istore_n 1, 1), (33, .iload_n 1, 1), (34, .ifCond .lt 83, 3), (37, .aload_n 0, 1), (38, .getfield 8, 3), (41, .aload_n 0, 1), (42, .getfield 651, 3)]
set_option maxRecDepth 20000 in
theorem dn_368_0_0_ok : dn_368_0_0.all (fun q => decide (decode (xm_b n_368) q.1 = .ok (q.2.1, q.2.2))) = true := xa_g_ok (by decide +kernel)
def dn_368_0_1 : List (Nat × Instr × Nat) := [(45, .bipush 14, 2), (47, .iadd, 1), (48, .iaload, 1), (49, .ifCond .ne 68, 3), (52, .aload_n 0, 1), (53, .getfield 8, 3), (56, .sipush 352, 3), (59, .iload_n 1, 1), (60, .iadd, 1), (61, .iaload, 1), (62, .aload_n 0, 1), (63, .getfield 8, 3), (66, .aload_n 0, 1), (67, .getfield 651, 3), (70, .bipush 10, 2), (72, .iadd, 1), (73, .iaload, 1), (74, .if_icmp .eq 43, 3), (77, .aload_n 0, 1), (78, .getfield 8, 3), (81, .aload_n 0, 1), (82, .getfield 651, 3), (85, .bipush 10, 2), (87, .iadd, 1), (88, .aload_n 0, 1)]
set_option maxRecDepth 20000 in
theorem dn_368_0_1_ok : dn_368_0_1.all (fun q => decide (decode (xm_b n_368) q.1 = .ok (q.2.1, q.2.2))) = true := xa_g_ok (by decide +kernel)
def dn_368_0_2 : List (Nat × Instr × Nat) := [(89, .getfield 8, 3), (92, .sipush 352, 3), (95, .iload_n 1, 1), (96, .iadd, 1), (97, .iaload, 1), (98, .iastore, 1), (99, .aload_n 0, 1), (100, .aload_n 0, 1), (101, .getfield 8, 3), (104, .aload_n 0, 1), (105, .getfield 651, 3), (108, .bipush 9, 2), (110, .iadd, 1), (111, .iaload, 1), (112, .iconst 1, 1), (113, .invokevirtual 681, 3), (116, .return_, 1), (117, .aload_n 0, 1), (118, .dup, 1), (119, .getfield 666, 3), (122, .iconst 1, 1), (123, .iadd, 1), (124, .putfield 666, 3), (127, .aload_n 0, 1), (128, .aload_n 0, 1)]
set_option maxRecDepth 20000 in
theorem dn_368_0_2_ok : dn_368_0_2.all (fun q => decide (decode (xm_b n_368) q.1 = .ok (q.2.1, q.2.2))) = true := xa_g_ok (by decide +kernel)
def dn_368_0_3 : List (Nat × Instr × Nat) := [(129, .getfield 8, 3), (132, .aload_n 0, 1), (133, .invokevirtual 657, 3), (136, .iaload, 1), (137, .iconst 1, 1), (138, .iadd, 1), (139, .invokevirtual 678, 3), (142, .return_, 1)]
set_option maxRecDepth 20000 in
theorem dn_368_0_3_ok : dn_368_0_3.all (fun q => decide (decode (xm_b n_368) q.1 = .ok (q.2.1, q.2.2))) = true := xa_g_ok (by decide +kernel)
def te_368_0 : Nat → eE := (e_T 16 (e_T 6 (e_T 1 (e_T 0 (e_L 0 (0, ei_load 0 2 1, 0, 0)) (e_L 1 (0, ei_push (0, 0) 2, 0, 0))) (e_T 2 (e_L 2 (0, ei_putf eft elay 12 102 0 5, 0, 0)) (e_T 5 (e_L 5 (0, ei_load 0 2 6, 0, 0)) (e_L 6 (0, ei_getf eft elay 12 99 9, 0, 0))))) (e_T 11 (e_T 9 (e_L 9 (0, ei_push (0, 20) 11, 0, 0)) (e_L 11 (0, ei_if2 1 20 14, 0, 0))) (e_T 14 (e_L 14 (0, ei_load 0 2 15, 0, 0)) (e_T 15 (e_L 15 (0, ei_push (0, 1) 16, 0, 0)) (e_L 16 (0, ei_putf eft elay 12 100 1 19, 0, 0)))))) (e_T 25 (e_T 20 (e_T 19 (e_L 19 (1, e_nof, 0, 0)) (e_L 20 (0, ei_load 0 2 21, 0, 0))) (e_T 21 (e_L 21 (0, ei_getf eft elay 12 0 24, 0, 0)) (e_T 24 (e_L 24 (0, ei_load 0 2 25, 0, 0)) (e_L 25 (0, ei_getf eft elay 12 97 28, 0, 0))))) (e_T 30 (e_T 28 (e_L 28 (0, ei_push (0, 8) 30, 0, 0)) (e_L 30 (0, ei_bin eF_add 31, 0, 0))) (e_T 31 (e_L 31 (0, ei_ald elay false 32, 0, 0)) (e_T 32 (e_L 32 (0, ei_stor 1 0 33, 0, 0)) (e_L 33 (0, ei_load 1 0 34, 0, 0)))))))
set_option maxRecDepth 20000 in
set_option maxHeartbeats 4000000 in
theorem te_368_0_ok : ∀ pc, e_EOq eft cls elay eI n_368 pc (te_368_0 pc) :=
  (e_Tok2
  (e_Tok2
  (e_Tok2
  (e_Tok2
  (e_Lok (ld_aload_n_0 (x_dk dn_368_0_0_ok 0 rfl)))
  (e_Lok (ps_iconst_0 (x_dk dn_368_0_0_ok 1 rfl))))
  (e_Tok2
  (e_Lok (lk_12_654p ho_368 (x_dk dn_368_0_0_ok 2 rfl)))
  (e_Tok2
  (e_Lok (ld_aload_n_0 (x_dk dn_368_0_0_ok 3 rfl)))
  (e_Lok (lk_12_666g ho_368 (x_dk dn_368_0_0_ok 4 rfl))))))
  (e_Tok2
  (e_Tok2
  (e_Lok (ps_bipush_20 (x_dk dn_368_0_0_ok 5 rfl)))
  (e_Lok (e_st (I := eI) (er_icmpne (off := 9) (tg := 20) (x_dk dn_368_0_0_ok 6 rfl) (by decide)) nx_if2)))
  (e_Tok2
  (e_Lok (ld_aload_n_0 (x_dk dn_368_0_0_ok 7 rfl)))
  (e_Tok2
  (e_Lok (ps_iconst_1 (x_dk dn_368_0_0_ok 8 rfl)))
  (e_Lok (lk_12_669p ho_368 (x_dk dn_368_0_0_ok 9 rfl)))))))
  (e_Tok2
  (e_Tok2
  (e_Tok2
  (e_Lok (e_rt (I := eI) (k := 0) ⟨(x_dk dn_368_0_0_ok 10 rfl), rfl⟩))
  (e_Lok (ld_aload_n_0 (x_dk dn_368_0_0_ok 11 rfl))))
  (e_Tok2
  (e_Lok (lk_12_8g ho_368 (x_dk dn_368_0_0_ok 12 rfl)))
  (e_Tok2
  (e_Lok (ld_aload_n_0 (x_dk dn_368_0_0_ok 13 rfl)))
  (e_Lok (lk_12_651g ho_368 (x_dk dn_368_0_0_ok 14 rfl))))))
  (e_Tok2
  (e_Tok2
  (e_Lok (ps_bipush_8 (x_dk dn_368_0_0_ok 15 rfl)))
  (e_Lok (sm_iadd (x_dk dn_368_0_0_ok 16 rfl))))
  (e_Tok2
  (e_Lok (sm_iaload (x_dk dn_368_0_0_ok 17 rfl)))
  (e_Tok2
  (e_Lok (e_st (I := eI) (er_istore_n (i := 1) (x_dk dn_368_0_0_ok 18 rfl) (by decide +kernel)) nx_stor))
  (e_Lok (ld_iload_n_1 (x_dk dn_368_0_0_ok 19 rfl))))))))
def te_368_20 : Nat → eE := (e_T 52 (e_T 42 (e_T 37 (e_T 34 (e_L 34 (0, ei_if1 2 117 37, 0, 0)) (e_L 37 (0, ei_load 0 2 38, 0, 0))) (e_T 38 (e_L 38 (0, ei_getf eft elay 12 0 41, 0, 0)) (e_T 41 (e_L 41 (0, ei_load 0 2 42, 0, 0)) (e_L 42 (0, ei_getf eft elay 12 97 45, 0, 0))))) (e_T 47 (e_T 45 (e_L 45 (0, ei_push (0, 14) 47, 0, 0)) (e_L 47 (0, ei_bin eF_add 48, 0, 0))) (e_T 48 (e_L 48 (0, ei_ald elay false 49, 0, 0)) (e_T 49 (e_L 49 (0, ei_if1 1 117 52, 0, 0)) (e_L 52 (0, ei_load 0 2 53, 0, 0)))))) (e_T 61 (e_T 56 (e_T 53 (e_L 53 (0, ei_getf eft elay 12 0 56, 0, 0)) (e_L 56 (0, ei_push (0, 352) 59, 0, 0))) (e_T 59 (e_L 59 (0, ei_load 1 0 60, 0, 0)) (e_T 60 (e_L 60 (0, ei_bin eF_add 61, 0, 0)) (e_L 61 (0, ei_ald elay false 62, 0, 0))))) (e_T 66 (e_T 62 (e_L 62 (0, ei_load 0 2 63, 0, 0)) (e_T 63 (e_L 63 (0, ei_getf eft elay 12 0 66, 0, 0)) (e_L 66 (0, ei_load 0 2 67, 0, 0)))) (e_T 67 (e_L 67 (0, ei_getf eft elay 12 97 70, 0, 0)) (e_T 70 (e_L 70 (0, ei_push (0, 10) 72, 0, 0)) (e_L 72 (0, ei_bin eF_add 73, 0, 0)))))))
set_option maxRecDepth 20000 in
set_option maxHeartbeats 4000000 in
theorem te_368_20_ok : ∀ pc, e_EOq eft cls elay eI n_368 pc (te_368_20 pc) :=
  (e_Tok2
  (e_Tok2
  (e_Tok2
  (e_Tok2
  (e_Lok (e_st (I := eI) (er_iflt (off := 83) (tg := 117) (x_dk dn_368_0_0_ok 20 rfl) (by decide)) nx_if1))
  (e_Lok (ld_aload_n_0 (x_dk dn_368_0_0_ok 21 rfl))))
  (e_Tok2
  (e_Lok (lk_12_8g ho_368 (x_dk dn_368_0_0_ok 22 rfl)))
  (e_Tok2
  (e_Lok (ld_aload_n_0 (x_dk dn_368_0_0_ok 23 rfl)))
  (e_Lok (lk_12_651g ho_368 (x_dk dn_368_0_0_ok 24 rfl))))))
  (e_Tok2
  (e_Tok2
  (e_Lok (ps_bipush_14 (x_dk dn_368_0_1_ok 0 rfl)))
  (e_Lok (sm_iadd (x_dk dn_368_0_1_ok 1 rfl))))
  (e_Tok2
  (e_Lok (sm_iaload (x_dk dn_368_0_1_ok 2 rfl)))
  (e_Tok2
  (e_Lok (e_st (I := eI) (er_ifne (off := 68) (tg := 117) (x_dk dn_368_0_1_ok 3 rfl) (by decide)) nx_if1))
  (e_Lok (ld_aload_n_0 (x_dk dn_368_0_1_ok 4 rfl)))))))
  (e_Tok2
  (e_Tok2
  (e_Tok2
  (e_Lok (lk_12_8g ho_368 (x_dk dn_368_0_1_ok 5 rfl)))
  (e_Lok (ps_sipush_352 (x_dk dn_368_0_1_ok 6 rfl))))
  (e_Tok2
  (e_Lok (ld_iload_n_1 (x_dk dn_368_0_1_ok 7 rfl)))
  (e_Tok2
  (e_Lok (sm_iadd (x_dk dn_368_0_1_ok 8 rfl)))
  (e_Lok (sm_iaload (x_dk dn_368_0_1_ok 9 rfl))))))
  (e_Tok2
  (e_Tok2
  (e_Lok (ld_aload_n_0 (x_dk dn_368_0_1_ok 10 rfl)))
  (e_Tok2
  (e_Lok (lk_12_8g ho_368 (x_dk dn_368_0_1_ok 11 rfl)))
  (e_Lok (ld_aload_n_0 (x_dk dn_368_0_1_ok 12 rfl)))))
  (e_Tok2
  (e_Lok (lk_12_651g ho_368 (x_dk dn_368_0_1_ok 13 rfl)))
  (e_Tok2
  (e_Lok (ps_bipush_10 (x_dk dn_368_0_1_ok 14 rfl)))
  (e_Lok (sm_iadd (x_dk dn_368_0_1_ok 15 rfl))))))))
def te_368_41 : Nat → eE := (e_T 89 (e_T 81 (e_T 74 (e_T 73 (e_L 73 (0, ei_ald elay false 74, 0, 0)) (e_L 74 (0, ei_if2 0 117 77, 0, 0))) (e_T 77 (e_L 77 (0, ei_load 0 2 78, 0, 0)) (e_T 78 (e_L 78 (0, ei_getf eft elay 12 0 81, 0, 0)) (e_L 81 (0, ei_load 0 2 82, 0, 0))))) (e_T 85 (e_T 82 (e_L 82 (0, ei_getf eft elay 12 97 85, 0, 0)) (e_L 85 (0, ei_push (0, 10) 87, 0, 0))) (e_T 87 (e_L 87 (0, ei_bin eF_add 88, 0, 0)) (e_T 88 (e_L 88 (0, ei_load 0 2 89, 0, 0)) (e_L 89 (0, ei_getf eft elay 12 0 92, 0, 0)))))) (e_T 98 (e_T 95 (e_T 92 (e_L 92 (0, ei_push (0, 352) 95, 0, 0)) (e_L 95 (0, ei_load 1 0 96, 0, 0))) (e_T 96 (e_L 96 (0, ei_bin eF_add 97, 0, 0)) (e_T 97 (e_L 97 (0, ei_ald elay false 98, 0, 0)) (e_L 98 (0, ei_ast elay false 99, 0, 0))))) (e_T 101 (e_T 99 (e_L 99 (0, ei_load 0 2 100, 0, 0)) (e_T 100 (e_L 100 (0, ei_load 0 2 101, 0, 0)) (e_L 101 (0, ei_getf eft elay 12 0 104, 0, 0)))) (e_T 104 (e_L 104 (0, ei_load 0 2 105, 0, 0)) (e_T 105 (e_L 105 (0, ei_getf eft elay 12 97 108, 0, 0)) (e_L 108 (0, ei_push (0, 9) 110, 0, 0)))))))
set_option maxRecDepth 20000 in
set_option maxHeartbeats 4000000 in
theorem te_368_41_ok : ∀ pc, e_EOq eft cls elay eI n_368 pc (te_368_41 pc) :=
  (e_Tok2
  (e_Tok2
  (e_Tok2
  (e_Tok2
  (e_Lok (sm_iaload (x_dk dn_368_0_1_ok 16 rfl)))
  (e_Lok (e_st (I := eI) (er_icmpeq (off := 43) (tg := 117) (x_dk dn_368_0_1_ok 17 rfl) (by decide)) nx_if2)))
  (e_Tok2
  (e_Lok (ld_aload_n_0 (x_dk dn_368_0_1_ok 18 rfl)))
  (e_Tok2
  (e_Lok (lk_12_8g ho_368 (x_dk dn_368_0_1_ok 19 rfl)))
  (e_Lok (ld_aload_n_0 (x_dk dn_368_0_1_ok 20 rfl))))))
  (e_Tok2
  (e_Tok2
  (e_Lok (lk_12_651g ho_368 (x_dk dn_368_0_1_ok 21 rfl)))
  (e_Lok (ps_bipush_10 (x_dk dn_368_0_1_ok 22 rfl))))
  (e_Tok2
  (e_Lok (sm_iadd (x_dk dn_368_0_1_ok 23 rfl)))
  (e_Tok2
  (e_Lok (ld_aload_n_0 (x_dk dn_368_0_1_ok 24 rfl)))
  (e_Lok (lk_12_8g ho_368 (x_dk dn_368_0_2_ok 0 rfl)))))))
  (e_Tok2
  (e_Tok2
  (e_Tok2
  (e_Lok (ps_sipush_352 (x_dk dn_368_0_2_ok 1 rfl)))
  (e_Lok (ld_iload_n_1 (x_dk dn_368_0_2_ok 2 rfl))))
  (e_Tok2
  (e_Lok (sm_iadd (x_dk dn_368_0_2_ok 3 rfl)))
  (e_Tok2
  (e_Lok (sm_iaload (x_dk dn_368_0_2_ok 4 rfl)))
  (e_Lok (sm_iastore (x_dk dn_368_0_2_ok 5 rfl))))))
  (e_Tok2
  (e_Tok2
  (e_Lok (ld_aload_n_0 (x_dk dn_368_0_2_ok 6 rfl)))
  (e_Tok2
  (e_Lok (ld_aload_n_0 (x_dk dn_368_0_2_ok 7 rfl)))
  (e_Lok (lk_12_8g ho_368 (x_dk dn_368_0_2_ok 8 rfl)))))
  (e_Tok2
  (e_Lok (ld_aload_n_0 (x_dk dn_368_0_2_ok 9 rfl)))
  (e_Tok2
  (e_Lok (lk_12_651g ho_368 (x_dk dn_368_0_2_ok 10 rfl)))
  (e_Lok (ps_bipush_9 (x_dk dn_368_0_2_ok 11 rfl))))))))
def te_368_62 : Nat → eE := (e_T 123 (e_T 116 (e_T 111 (e_T 110 (e_L 110 (0, ei_bin eF_add 111, 0, 0)) (e_L 111 (0, ei_ald elay false 112, 0, 0))) (e_T 112 (e_L 112 (0, ei_push (0, 1) 113, 0, 0)) (e_T 113 (e_L 113 (2, e_nof, 367, 3)) (e_L 116 (1, e_nof, 0, 0))))) (e_T 118 (e_T 117 (e_L 117 (0, ei_load 0 2 118, 0, 0)) (e_L 118 (0, ei_stk ef_dup 119, 0, 0))) (e_T 119 (e_L 119 (0, ei_getf eft elay 12 99 122, 0, 0)) (e_T 122 (e_L 122 (0, ei_push (0, 1) 123, 0, 0)) (e_L 123 (0, ei_bin eF_add 124, 0, 0)))))) (e_T 132 (e_T 127 (e_T 124 (e_L 124 (0, ei_putf eft elay 12 99 0 127, 0, 0)) (e_L 127 (0, ei_load 0 2 128, 0, 0))) (e_T 128 (e_L 128 (0, ei_load 0 2 129, 0, 0)) (e_T 129 (e_L 129 (0, ei_getf eft elay 12 0 132, 0, 0)) (e_L 132 (0, ei_load 0 2 133, 0, 0))))) (e_T 137 (e_T 133 (e_L 133 (2, e_nof, 362, 1)) (e_T 136 (e_L 136 (0, ei_ald elay false 137, 0, 0)) (e_L 137 (0, ei_push (0, 1) 138, 0, 0)))) (e_T 138 (e_L 138 (0, ei_bin eF_add 139, 0, 0)) (e_T 139 (e_L 139 (2, e_nof, 365, 2)) (e_L 142 (1, e_nof, 0, 0)))))))
set_option maxRecDepth 20000 in
set_option maxHeartbeats 4000000 in
theorem te_368_62_ok : ∀ pc, e_EOq eft cls elay eI n_368 pc (te_368_62 pc) :=
  (e_Tok2
  (e_Tok2
  (e_Tok2
  (e_Tok2
  (e_Lok (sm_iadd (x_dk dn_368_0_2_ok 12 rfl)))
  (e_Lok (sm_iaload (x_dk dn_368_0_2_ok 13 rfl))))
  (e_Tok2
  (e_Lok (ps_iconst_1 (x_dk dn_368_0_2_ok 14 rfl)))
  (e_Tok2
  (e_Lok (lk_12_681 ho_368 (x_dk dn_368_0_2_ok 15 rfl)))
  (e_Lok (e_rt (I := eI) (k := 0) ⟨(x_dk dn_368_0_2_ok 16 rfl), rfl⟩)))))
  (e_Tok2
  (e_Tok2
  (e_Lok (ld_aload_n_0 (x_dk dn_368_0_2_ok 17 rfl)))
  (e_Lok (e_st (I := eI) (er_dup (x_dk dn_368_0_2_ok 18 rfl)) (nx_stk bf_dup))))
  (e_Tok2
  (e_Lok (lk_12_666g ho_368 (x_dk dn_368_0_2_ok 19 rfl)))
  (e_Tok2
  (e_Lok (ps_iconst_1 (x_dk dn_368_0_2_ok 20 rfl)))
  (e_Lok (sm_iadd (x_dk dn_368_0_2_ok 21 rfl)))))))
  (e_Tok2
  (e_Tok2
  (e_Tok2
  (e_Lok (lk_12_666p ho_368 (x_dk dn_368_0_2_ok 22 rfl)))
  (e_Lok (ld_aload_n_0 (x_dk dn_368_0_2_ok 23 rfl))))
  (e_Tok2
  (e_Lok (ld_aload_n_0 (x_dk dn_368_0_2_ok 24 rfl)))
  (e_Tok2
  (e_Lok (lk_12_8g ho_368 (x_dk dn_368_0_3_ok 0 rfl)))
  (e_Lok (ld_aload_n_0 (x_dk dn_368_0_3_ok 1 rfl))))))
  (e_Tok2
  (e_Tok2
  (e_Lok (lk_12_657 ho_368 (x_dk dn_368_0_3_ok 2 rfl)))
  (e_Tok2
  (e_Lok (sm_iaload (x_dk dn_368_0_3_ok 3 rfl)))
  (e_Lok (ps_iconst_1 (x_dk dn_368_0_3_ok 4 rfl)))))
  (e_Tok2
  (e_Lok (sm_iadd (x_dk dn_368_0_3_ok 5 rfl)))
  (e_Tok2
  (e_Lok (lk_12_678 ho_368 (x_dk dn_368_0_3_ok 6 rfl)))
  (e_Lok (e_rt (I := eI) (k := 0) ⟨(x_dk dn_368_0_3_ok 7 rfl), rfl⟩)))))))
def te_368 : Nat → eE := (e_T 72 (e_T 33 te_368_0 te_368_20) (e_T 108 te_368_41 te_368_62))
theorem te_368_ok : ∀ pc, e_EOq eft cls elay eI n_368 pc (te_368 pc) := (e_Tok2 ((e_Tok2 (te_368_0_ok) (te_368_20_ok))) ((e_Tok2 (te_368_41_ok) (te_368_62_ok))))
theorem ho_369 : (xm_y n_369).cls = "RobotCellHouseModel" := rfl
def dn_369_0_0 : List (Nat × Instr × Nat) := [(0, .aload_n 0, 1), (1, .aload_n 0, 1), (2, .getfield 177, 3), (5, .sipush 10000, 3), (8, .aload_n 0, 1), (9, .getfield 663, 3), (12, .imul, 1), (13, .aload_n 0, 1), (14, .getfield 8, 3), (17, .aload_n 0, 1), (18, .invokevirtual 657, 3), (21, .iaload, 1), (22, .iadd, 1), (23, .iaload, 1), (24, .iconst 1, 1), (25, .iload_n 1, 1), (26, .invokevirtual 684, 3), (29, .return_, 1)]
set_option maxRecDepth 20000 in
theorem dn_369_0_0_ok : dn_369_0_0.all (fun q => decide (decode (xm_b n_369) q.1 = .ok (q.2.1, q.2.2))) = true := xa_g_ok (by decide +kernel)
def te_369_0 : Nat → eE := (e_T 14 (e_T 5 (e_T 1 (e_T 0 (e_L 0 (0, ei_load 0 2 1, 0, 0)) (e_L 1 (0, ei_load 0 2 2, 0, 0))) (e_T 2 (e_L 2 (0, ei_getf eft elay 12 67 5, 0, 0)) (e_L 5 (0, ei_push (0, 10000) 8, 0, 0)))) (e_T 9 (e_T 8 (e_L 8 (0, ei_load 0 2 9, 0, 0)) (e_L 9 (0, ei_getf eft elay 12 98 12, 0, 0))) (e_T 12 (e_L 12 (0, ei_bin eF_mul 13, 0, 0)) (e_T 13 (e_L 13 (0, ei_load 0 2 14, 0, 0)) (e_L 14 (0, ei_getf eft elay 12 0 17, 0, 0)))))) (e_T 22 (e_T 18 (e_T 17 (e_L 17 (0, ei_load 0 2 18, 0, 0)) (e_L 18 (2, e_nof, 362, 1))) (e_T 21 (e_L 21 (0, ei_ald elay false 22, 0, 0)) (e_L 22 (0, ei_bin eF_add 23, 0, 0)))) (e_T 24 (e_T 23 (e_L 23 (0, ei_ald elay false 24, 0, 0)) (e_L 24 (0, ei_push (0, 1) 25, 0, 0))) (e_T 25 (e_L 25 (0, ei_load 1 0 26, 0, 0)) (e_T 26 (e_L 26 (2, e_nof, 371, 4)) (e_L 29 (1, e_nof, 0, 0)))))))
set_option maxRecDepth 20000 in
set_option maxHeartbeats 4000000 in
theorem te_369_0_ok : ∀ pc, e_EOq eft cls elay eI n_369 pc (te_369_0 pc) :=
  (e_Tok2
  (e_Tok2
  (e_Tok2
  (e_Tok2
  (e_Lok (ld_aload_n_0 (x_dk dn_369_0_0_ok 0 rfl)))
  (e_Lok (ld_aload_n_0 (x_dk dn_369_0_0_ok 1 rfl))))
  (e_Tok2
  (e_Lok (lk_12_177g ho_369 (x_dk dn_369_0_0_ok 2 rfl)))
  (e_Lok (ps_sipush_10000 (x_dk dn_369_0_0_ok 3 rfl)))))
  (e_Tok2
  (e_Tok2
  (e_Lok (ld_aload_n_0 (x_dk dn_369_0_0_ok 4 rfl)))
  (e_Lok (lk_12_663g ho_369 (x_dk dn_369_0_0_ok 5 rfl))))
  (e_Tok2
  (e_Lok (sm_imul (x_dk dn_369_0_0_ok 6 rfl)))
  (e_Tok2
  (e_Lok (ld_aload_n_0 (x_dk dn_369_0_0_ok 7 rfl)))
  (e_Lok (lk_12_8g ho_369 (x_dk dn_369_0_0_ok 8 rfl)))))))
  (e_Tok2
  (e_Tok2
  (e_Tok2
  (e_Lok (ld_aload_n_0 (x_dk dn_369_0_0_ok 9 rfl)))
  (e_Lok (lk_12_657 ho_369 (x_dk dn_369_0_0_ok 10 rfl))))
  (e_Tok2
  (e_Lok (sm_iaload (x_dk dn_369_0_0_ok 11 rfl)))
  (e_Lok (sm_iadd (x_dk dn_369_0_0_ok 12 rfl)))))
  (e_Tok2
  (e_Tok2
  (e_Lok (sm_iaload (x_dk dn_369_0_0_ok 13 rfl)))
  (e_Lok (ps_iconst_1 (x_dk dn_369_0_0_ok 14 rfl))))
  (e_Tok2
  (e_Lok (ld_iload_n_1 (x_dk dn_369_0_0_ok 15 rfl)))
  (e_Tok2
  (e_Lok (lk_12_684 ho_369 (x_dk dn_369_0_0_ok 16 rfl)))
  (e_Lok (e_rt (I := eI) (k := 0) ⟨(x_dk dn_369_0_0_ok 17 rfl), rfl⟩)))))))
def te_369 : Nat → eE := te_369_0
theorem te_369_ok : ∀ pc, e_EOq eft cls elay eI n_369 pc (te_369 pc) := te_369_0_ok
theorem ho_370 : (xm_y n_370).cls = "RobotCellHouseModel" := rfl
def dn_370_0_0 : List (Nat × Instr × Nat) := [(0, .aload_n 0, 1), (1, .getfield 651, 3), (4, .bipush 60, 2), (6, .iadd, 1), (7, .iconst 2, 1), (8, .aload_n 0, 1), (9, .getfield 8, 3), (12, .aload_n 0, 1), (13, .getfield 651, 3), (16, .bipush 13, 2), (18, .iadd, 1), (19, .iaload, 1), (20, .imul, 1), (21, .iadd, 1), (22, .istore_n 3, 1), (23, .aload_n 0, 1), (24, .getfield 8, 3), (27, .iload_n 3, 1), (28, .iload_n 1, 1), (29, .iastore, 1), (30, .aload_n 0, 1), (31, .getfield 8, 3), (34, .iload_n 3, 1), (35, .iconst 1, 1), (36, .iadd, 1)]
set_option maxRecDepth 20000 in
theorem dn_370_0_0_ok : dn_370_0_0.all (fun q => decide (decode (xm_b n_370) q.1 = .ok (q.2.1, q.2.2))) = true := xa_g_ok (by decide +kernel)
def dn_370_0_1 : List (Nat × Instr × Nat) := [(37, .iload_n 2, 1), (38, .iastore, 1), (39, .aload_n 0, 1), (40, .getfield 8, 3), (43, .aload_n 0, 1), (44, .getfield 651, 3), (47, .bipush 13, 2), (49, .iadd, 1), (50, .dup2, 1), (51, .iaload, 1), (52, .iconst 1, 1), (53, .iadd, 1), (54, .iastore, 1), (55, .return_, 1)]
set_option maxRecDepth 20000 in
theorem dn_370_0_1_ok : dn_370_0_1.all (fun q => decide (decode (xm_b n_370) q.1 = .ok (q.2.1, q.2.2))) = true := xa_g_ok (by decide +kernel)
def te_370_0 : Nat → eE := (e_T 28 (e_T 13 (e_T 6 (e_T 1 (e_T 0 (e_L 0 (0, ei_load 0 2 1, 0, 0)) (e_L 1 (0, ei_getf eft elay 12 97 4, 0, 0))) (e_T 4 (e_L 4 (0, ei_push (0, 60) 6, 0, 0)) (e_L 6 (0, ei_bin eF_add 7, 0, 0)))) (e_T 8 (e_T 7 (e_L 7 (0, ei_push (0, 2) 8, 0, 0)) (e_L 8 (0, ei_load 0 2 9, 0, 0))) (e_T 9 (e_L 9 (0, ei_getf eft elay 12 0 12, 0, 0)) (e_T 12 (e_L 12 (0, ei_load 0 2 13, 0, 0)) (e_L 13 (0, ei_getf eft elay 12 97 16, 0, 0)))))) (e_T 21 (e_T 18 (e_T 16 (e_L 16 (0, ei_push (0, 13) 18, 0, 0)) (e_L 18 (0, ei_bin eF_add 19, 0, 0))) (e_T 19 (e_L 19 (0, ei_ald elay false 20, 0, 0)) (e_T 20 (e_L 20 (0, ei_bin eF_mul 21, 0, 0)) (e_L 21 (0, ei_bin eF_add 22, 0, 0))))) (e_T 23 (e_T 22 (e_L 22 (0, ei_stor 3 0 23, 0, 0)) (e_L 23 (0, ei_load 0 2 24, 0, 0))) (e_T 24 (e_L 24 (0, ei_getf eft elay 12 0 27, 0, 0)) (e_T 27 (e_L 27 (0, ei_load 3 0 28, 0, 0)) (e_L 28 (0, ei_load 1 0 29, 0, 0))))))) (e_T 40 (e_T 35 (e_T 30 (e_T 29 (e_L 29 (0, ei_ast elay false 30, 0, 0)) (e_L 30 (0, ei_load 0 2 31, 0, 0))) (e_T 31 (e_L 31 (0, ei_getf eft elay 12 0 34, 0, 0)) (e_T 34 (e_L 34 (0, ei_load 3 0 35, 0, 0)) (e_L 35 (0, ei_push (0, 1) 36, 0, 0))))) (e_T 37 (e_T 36 (e_L 36 (0, ei_bin eF_add 37, 0, 0)) (e_L 37 (0, ei_load 2 0 38, 0, 0))) (e_T 38 (e_L 38 (0, ei_ast elay false 39, 0, 0)) (e_T 39 (e_L 39 (0, ei_load 0 2 40, 0, 0)) (e_L 40 (0, ei_getf eft elay 12 0 43, 0, 0)))))) (e_T 50 (e_T 44 (e_T 43 (e_L 43 (0, ei_load 0 2 44, 0, 0)) (e_L 44 (0, ei_getf eft elay 12 97 47, 0, 0))) (e_T 47 (e_L 47 (0, ei_push (0, 13) 49, 0, 0)) (e_T 49 (e_L 49 (0, ei_bin eF_add 50, 0, 0)) (e_L 50 (0, ei_stk ef_dup2 51, 0, 0))))) (e_T 52 (e_T 51 (e_L 51 (0, ei_ald elay false 52, 0, 0)) (e_L 52 (0, ei_push (0, 1) 53, 0, 0))) (e_T 53 (e_L 53 (0, ei_bin eF_add 54, 0, 0)) (e_T 54 (e_L 54 (0, ei_ast elay false 55, 0, 0)) (e_L 55 (1, e_nof, 0, 0))))))))
set_option maxRecDepth 20000 in
set_option maxHeartbeats 4000000 in
theorem te_370_0_ok : ∀ pc, e_EOq eft cls elay eI n_370 pc (te_370_0 pc) :=
  (e_Tok2
  (e_Tok2
  (e_Tok2
  (e_Tok2
  (e_Tok2
  (e_Lok (ld_aload_n_0 (x_dk dn_370_0_0_ok 0 rfl)))
  (e_Lok (lk_12_651g ho_370 (x_dk dn_370_0_0_ok 1 rfl))))
  (e_Tok2
  (e_Lok (ps_bipush_60 (x_dk dn_370_0_0_ok 2 rfl)))
  (e_Lok (sm_iadd (x_dk dn_370_0_0_ok 3 rfl)))))
  (e_Tok2
  (e_Tok2
  (e_Lok (ps_iconst_2 (x_dk dn_370_0_0_ok 4 rfl)))
  (e_Lok (ld_aload_n_0 (x_dk dn_370_0_0_ok 5 rfl))))
  (e_Tok2
  (e_Lok (lk_12_8g ho_370 (x_dk dn_370_0_0_ok 6 rfl)))
  (e_Tok2
  (e_Lok (ld_aload_n_0 (x_dk dn_370_0_0_ok 7 rfl)))
  (e_Lok (lk_12_651g ho_370 (x_dk dn_370_0_0_ok 8 rfl)))))))
  (e_Tok2
  (e_Tok2
  (e_Tok2
  (e_Lok (ps_bipush_13 (x_dk dn_370_0_0_ok 9 rfl)))
  (e_Lok (sm_iadd (x_dk dn_370_0_0_ok 10 rfl))))
  (e_Tok2
  (e_Lok (sm_iaload (x_dk dn_370_0_0_ok 11 rfl)))
  (e_Tok2
  (e_Lok (sm_imul (x_dk dn_370_0_0_ok 12 rfl)))
  (e_Lok (sm_iadd (x_dk dn_370_0_0_ok 13 rfl))))))
  (e_Tok2
  (e_Tok2
  (e_Lok (e_st (I := eI) (er_istore_n (i := 3) (x_dk dn_370_0_0_ok 14 rfl) (by decide +kernel)) nx_stor))
  (e_Lok (ld_aload_n_0 (x_dk dn_370_0_0_ok 15 rfl))))
  (e_Tok2
  (e_Lok (lk_12_8g ho_370 (x_dk dn_370_0_0_ok 16 rfl)))
  (e_Tok2
  (e_Lok (ld_iload_n_3 (x_dk dn_370_0_0_ok 17 rfl)))
  (e_Lok (ld_iload_n_1 (x_dk dn_370_0_0_ok 18 rfl))))))))
  (e_Tok2
  (e_Tok2
  (e_Tok2
  (e_Tok2
  (e_Lok (sm_iastore (x_dk dn_370_0_0_ok 19 rfl)))
  (e_Lok (ld_aload_n_0 (x_dk dn_370_0_0_ok 20 rfl))))
  (e_Tok2
  (e_Lok (lk_12_8g ho_370 (x_dk dn_370_0_0_ok 21 rfl)))
  (e_Tok2
  (e_Lok (ld_iload_n_3 (x_dk dn_370_0_0_ok 22 rfl)))
  (e_Lok (ps_iconst_1 (x_dk dn_370_0_0_ok 23 rfl))))))
  (e_Tok2
  (e_Tok2
  (e_Lok (sm_iadd (x_dk dn_370_0_0_ok 24 rfl)))
  (e_Lok (ld_iload_n_2 (x_dk dn_370_0_1_ok 0 rfl))))
  (e_Tok2
  (e_Lok (sm_iastore (x_dk dn_370_0_1_ok 1 rfl)))
  (e_Tok2
  (e_Lok (ld_aload_n_0 (x_dk dn_370_0_1_ok 2 rfl)))
  (e_Lok (lk_12_8g ho_370 (x_dk dn_370_0_1_ok 3 rfl)))))))
  (e_Tok2
  (e_Tok2
  (e_Tok2
  (e_Lok (ld_aload_n_0 (x_dk dn_370_0_1_ok 4 rfl)))
  (e_Lok (lk_12_651g ho_370 (x_dk dn_370_0_1_ok 5 rfl))))
  (e_Tok2
  (e_Lok (ps_bipush_13 (x_dk dn_370_0_1_ok 6 rfl)))
  (e_Tok2
  (e_Lok (sm_iadd (x_dk dn_370_0_1_ok 7 rfl)))
  (e_Lok (e_st (I := eI) (er_dup2 (x_dk dn_370_0_1_ok 8 rfl)) (nx_stk bf_dup2))))))
  (e_Tok2
  (e_Tok2
  (e_Lok (sm_iaload (x_dk dn_370_0_1_ok 9 rfl)))
  (e_Lok (ps_iconst_1 (x_dk dn_370_0_1_ok 10 rfl))))
  (e_Tok2
  (e_Lok (sm_iadd (x_dk dn_370_0_1_ok 11 rfl)))
  (e_Tok2
  (e_Lok (sm_iastore (x_dk dn_370_0_1_ok 12 rfl)))
  (e_Lok (e_rt (I := eI) (k := 0) ⟨(x_dk dn_370_0_1_ok 13 rfl), rfl⟩))))))))
def te_370 : Nat → eE := te_370_0
theorem te_370_ok : ∀ pc, e_EOq eft cls elay eI n_370 pc (te_370 pc) := te_370_0_ok
theorem ho_371 : (xm_y n_371).cls = "RobotCellHouseModel" := rfl
def dn_371_0_0 : List (Nat × Instr × Nat) := [(0, .aload_n 0, 1), (1, .iconst 0, 1), (2, .putfield 654, 3), (5, .iload_n 1, 1), (6, .istore 4, 2), (8, .iconst 1, 1), (9, .istore 5, 2), (11, .iload 5, 2), (13, .ifCond .eq 224, 3), (16, .iload_n 2, 1), (17, .iconst 3, 1), (18, .if_icmp .ne 43, 3), (21, .iload 4, 2), (23, .aload_n 0, 1), (24, .getfield 192, 3), (27, .sipush 900, 3), (30, .aload_n 0, 1), (31, .getfield 663, 3), (34, .imul, 1), (35, .iload_n 3, 1), (36, .iadd, 1), (37, .iaload, 1), (38, .if_icmp .ne 23, 3), (41, .aload_n 0, 1), (42, .aload_n 0, 1)]
set_option maxRecDepth 20000 in
theorem dn_371_0_0_ok : dn_371_0_0.all (fun q => decide (decode (xm_b n_371) q.1 = .ok (q.2.1, q.2.2))) = true := xa_g_ok (by decide +kernel)
def dn_371_0_1 : List (Nat × Instr × Nat) := [(43, .getfield 195, 3), (46, .sipush 900, 3), (49, .aload_n 0, 1), (50, .getfield 663, 3), (53, .imul, 1), (54, .iload_n 3, 1), (55, .iadd, 1), (56, .iaload, 1), (57, .invokevirtual 678, 3), (60, .return_, 1), (61, .iload 4, 2), (63, .ifCond .ge 27, 3), (66, .aload_n 0, 1), (67, .iload_n 2, 1), (68, .iload_n 3, 1), (69, .invokevirtual 687, 3), (72, .istore 4, 2), (74, .iload 4, 2), (76, .iconst (-1), 1), (77, .if_icmp .lt 7, 3), (80, .iconst 1, 1), (81, .goto 4, 3), (84, .iconst 0, 1), (85, .istore 5, 2), (87, .goto (-76), 3)]
set_option maxRecDepth 20000 in
theorem dn_371_0_1_ok : dn_371_0_1.all (fun q => decide (decode (xm_b n_371) q.1 = .ok (q.2.1, q.2.2))) = true := xa_g_ok (by decide +kernel)
def dn_371_0_2 : List (Nat × Instr × Nat) := [(90, .sipush 900, 3), (93, .aload_n 0, 1), (94, .getfield 663, 3), (97, .imul, 1), (98, .iload 4, 2), (100, .iconst 3, 1), (101, .idiv, 1), (102, .iadd, 1), (103, .istore 6, 2), (105, .iload 4, 2), (107, .iconst 3, 1), (108, .irem, 1), (109, .istore 7, 2), (111, .iload 7, 2), (113, .ifCond .ne 47, 3), (116, .iload_n 2, 1), (117, .iconst 1, 1), (118, .if_icmp .ne 42, 3), (121, .aload_n 0, 1), (122, .getfield 183, 3), (125, .iload 6, 2), (127, .iaload, 1), (128, .ifCond .lt 32, 3), (131, .aload_n 0, 1), (132, .getfield 8, 3)]
set_option maxRecDepth 20000 in
theorem dn_371_0_2_ok : dn_371_0_2.all (fun q => decide (decode (xm_b n_371) q.1 = .ok (q.2.1, q.2.2))) = true := xa_g_ok (by decide +kernel)
def dn_371_0_3 : List (Nat × Instr × Nat) := [(135, .aload_n 0, 1), (136, .getfield 651, 3), (139, .iconst 3, 1), (140, .iadd, 1), (141, .iload_n 3, 1), (142, .iastore, 1), (143, .aload_n 0, 1), (144, .aload_n 0, 1), (145, .getfield 183, 3), (148, .iload 6, 2), (150, .iaload, 1), (151, .invokevirtual 678, 3), (154, .iconst 0, 1), (155, .istore 5, 2), (157, .goto 77, 3), (160, .iload 7, 2), (162, .iconst 2, 1), (163, .if_icmp .ge 36, 3), (166, .aload_n 0, 1), (167, .getfield 186, 3), (170, .iload 6, 2), (172, .iaload, 1), (173, .ifCond .lt 26, 3), (176, .aload_n 0, 1), (177, .iload_n 2, 1)]
set_option maxRecDepth 20000 in
theorem dn_371_0_3_ok : dn_371_0_3.all (fun q => decide (decode (xm_b n_371) q.1 = .ok (q.2.1, q.2.2))) = true := xa_g_ok (by decide +kernel)
def dn_371_1_0 : List (Nat × Instr × Nat) := [(178, .iload_n 3, 1), (179, .invokevirtual 690, 3), (182, .aload_n 0, 1), (183, .aload_n 0, 1), (184, .getfield 186, 3), (187, .iload 6, 2), (189, .iaload, 1), (190, .invokevirtual 678, 3), (193, .iconst 0, 1), (194, .istore 5, 2), (196, .goto 38, 3), (199, .aload_n 0, 1), (200, .getfield 8, 3), (203, .aload_n 0, 1), (204, .getfield 651, 3), (207, .bipush 13, 2), (209, .iadd, 1), (210, .dup2, 1), (211, .iaload, 1), (212, .iload 7, 2), (214, .iconst 2, 1), (215, .if_icmp .ne 7, 3), (218, .iconst 1, 1), (219, .goto 4, 3), (222, .iconst 0, 1)]
set_option maxRecDepth 20000 in
theorem dn_371_1_0_ok : dn_371_1_0.all (fun q => decide (decode (xm_b n_371) q.1 = .ok (q.2.1, q.2.2))) = true := xa_g_ok (by decide +kernel)
def dn_371_1_1 : List (Nat × Instr × Nat) := [(223, .isub, 1), (224, .iastore, 1), (225, .aload_n 0, 1), (226, .getfield 180, 3), (229, .iload 6, 2), (231, .iaload, 1), (232, .istore 4, 2), (234, .goto (-223), 3), (237, .return_, 1)]
set_option maxRecDepth 20000 in
theorem dn_371_1_1_ok : dn_371_1_1.all (fun q => decide (decode (xm_b n_371) q.1 = .ok (q.2.1, q.2.2))) = true := xa_g_ok (by decide +kernel)
def te_371_0 : Nat → eE := (e_T 27 (e_T 11 (e_T 5 (e_T 1 (e_T 0 (e_L 0 (0, ei_load 0 2 1, 0, 0)) (e_L 1 (0, ei_push (0, 0) 2, 0, 0))) (e_T 2 (e_L 2 (0, ei_putf eft elay 12 102 0 5, 0, 0)) (e_L 5 (0, ei_load 1 0 6, 0, 0)))) (e_T 8 (e_T 6 (e_L 6 (0, ei_stor 4 0 8, 0, 0)) (e_L 8 (0, ei_push (0, 1) 9, 0, 0))) (e_T 9 (e_L 9 (0, ei_stor 5 0 11, 0, 0)) (e_L 11 (0, ei_load 5 0 13, 0, 0))))) (e_T 18 (e_T 16 (e_T 13 (e_L 13 (0, ei_if1 0 237 16, 0, 0)) (e_L 16 (0, ei_load 2 0 17, 0, 0))) (e_T 17 (e_L 17 (0, ei_push (0, 3) 18, 0, 0)) (e_L 18 (0, ei_if2 1 61 21, 0, 0)))) (e_T 23 (e_T 21 (e_L 21 (0, ei_load 4 0 23, 0, 0)) (e_L 23 (0, ei_load 0 2 24, 0, 0))) (e_T 24 (e_L 24 (0, ei_getf eft elay 12 72 27, 0, 0)) (e_L 27 (0, ei_push (0, 900) 30, 0, 0)))))) (e_T 41 (e_T 35 (e_T 31 (e_T 30 (e_L 30 (0, ei_load 0 2 31, 0, 0)) (e_L 31 (0, ei_getf eft elay 12 98 34, 0, 0))) (e_T 34 (e_L 34 (0, ei_bin eF_mul 35, 0, 0)) (e_L 35 (0, ei_load 3 0 36, 0, 0)))) (e_T 37 (e_T 36 (e_L 36 (0, ei_bin eF_add 37, 0, 0)) (e_L 37 (0, ei_ald elay false 38, 0, 0))) (e_T 38 (e_L 38 (0, ei_if2 1 61 41, 0, 0)) (e_L 41 (0, ei_load 0 2 42, 0, 0))))) (e_T 49 (e_T 43 (e_T 42 (e_L 42 (0, ei_load 0 2 43, 0, 0)) (e_L 43 (0, ei_getf eft elay 12 73 46, 0, 0))) (e_T 46 (e_L 46 (0, ei_push (0, 900) 49, 0, 0)) (e_L 49 (0, ei_load 0 2 50, 0, 0)))) (e_T 53 (e_T 50 (e_L 50 (0, ei_getf eft elay 12 98 53, 0, 0)) (e_L 53 (0, ei_bin eF_mul 54, 0, 0))) (e_T 54 (e_L 54 (0, ei_load 3 0 55, 0, 0)) (e_T 55 (e_L 55 (0, ei_bin eF_add 56, 0, 0)) (e_L 56 (0, ei_ald elay false 57, 0, 0))))))))
set_option maxRecDepth 20000 in
set_option maxHeartbeats 4000000 in
theorem te_371_0_ok : ∀ pc, e_EOq eft cls elay eI n_371 pc (te_371_0 pc) :=
  (e_Tok2
  (e_Tok2
  (e_Tok2
  (e_Tok2
  (e_Tok2
  (e_Lok (ld_aload_n_0 (x_dk dn_371_0_0_ok 0 rfl)))
  (e_Lok (ps_iconst_0 (x_dk dn_371_0_0_ok 1 rfl))))
  (e_Tok2
  (e_Lok (lk_12_654p ho_371 (x_dk dn_371_0_0_ok 2 rfl)))
  (e_Lok (ld_iload_n_1 (x_dk dn_371_0_0_ok 3 rfl)))))
  (e_Tok2
  (e_Tok2
  (e_Lok (e_st (I := eI) (er_istore (i := 4) (x_dk dn_371_0_0_ok 4 rfl) (by decide +kernel)) nx_stor))
  (e_Lok (ps_iconst_1 (x_dk dn_371_0_0_ok 5 rfl))))
  (e_Tok2
  (e_Lok (e_st (I := eI) (er_istore (i := 5) (x_dk dn_371_0_0_ok 6 rfl) (by decide +kernel)) nx_stor))
  (e_Lok (ld_iload_5 (x_dk dn_371_0_0_ok 7 rfl))))))
  (e_Tok2
  (e_Tok2
  (e_Tok2
  (e_Lok (e_st (I := eI) (er_ifeq (off := 224) (tg := 237) (x_dk dn_371_0_0_ok 8 rfl) (by decide)) nx_if1))
  (e_Lok (ld_iload_n_2 (x_dk dn_371_0_0_ok 9 rfl))))
  (e_Tok2
  (e_Lok (ps_iconst_3 (x_dk dn_371_0_0_ok 10 rfl)))
  (e_Lok (e_st (I := eI) (er_icmpne (off := 43) (tg := 61) (x_dk dn_371_0_0_ok 11 rfl) (by decide)) nx_if2))))
  (e_Tok2
  (e_Tok2
  (e_Lok (ld_iload_4 (x_dk dn_371_0_0_ok 12 rfl)))
  (e_Lok (ld_aload_n_0 (x_dk dn_371_0_0_ok 13 rfl))))
  (e_Tok2
  (e_Lok (lk_12_192g ho_371 (x_dk dn_371_0_0_ok 14 rfl)))
  (e_Lok (ps_sipush_900 (x_dk dn_371_0_0_ok 15 rfl)))))))
  (e_Tok2
  (e_Tok2
  (e_Tok2
  (e_Tok2
  (e_Lok (ld_aload_n_0 (x_dk dn_371_0_0_ok 16 rfl)))
  (e_Lok (lk_12_663g ho_371 (x_dk dn_371_0_0_ok 17 rfl))))
  (e_Tok2
  (e_Lok (sm_imul (x_dk dn_371_0_0_ok 18 rfl)))
  (e_Lok (ld_iload_n_3 (x_dk dn_371_0_0_ok 19 rfl)))))
  (e_Tok2
  (e_Tok2
  (e_Lok (sm_iadd (x_dk dn_371_0_0_ok 20 rfl)))
  (e_Lok (sm_iaload (x_dk dn_371_0_0_ok 21 rfl))))
  (e_Tok2
  (e_Lok (e_st (I := eI) (er_icmpne (off := 23) (tg := 61) (x_dk dn_371_0_0_ok 22 rfl) (by decide)) nx_if2))
  (e_Lok (ld_aload_n_0 (x_dk dn_371_0_0_ok 23 rfl))))))
  (e_Tok2
  (e_Tok2
  (e_Tok2
  (e_Lok (ld_aload_n_0 (x_dk dn_371_0_0_ok 24 rfl)))
  (e_Lok (lk_12_195g ho_371 (x_dk dn_371_0_1_ok 0 rfl))))
  (e_Tok2
  (e_Lok (ps_sipush_900 (x_dk dn_371_0_1_ok 1 rfl)))
  (e_Lok (ld_aload_n_0 (x_dk dn_371_0_1_ok 2 rfl)))))
  (e_Tok2
  (e_Tok2
  (e_Lok (lk_12_663g ho_371 (x_dk dn_371_0_1_ok 3 rfl)))
  (e_Lok (sm_imul (x_dk dn_371_0_1_ok 4 rfl))))
  (e_Tok2
  (e_Lok (ld_iload_n_3 (x_dk dn_371_0_1_ok 5 rfl)))
  (e_Tok2
  (e_Lok (sm_iadd (x_dk dn_371_0_1_ok 6 rfl)))
  (e_Lok (sm_iaload (x_dk dn_371_0_1_ok 7 rfl)))))))))
def te_371_33 : Nat → eE := (e_T 87 (e_T 69 (e_T 63 (e_T 60 (e_T 57 (e_L 57 (2, e_nof, 365, 2)) (e_L 60 (1, e_nof, 0, 0))) (e_T 61 (e_L 61 (0, ei_load 4 0 63, 0, 0)) (e_L 63 (0, ei_if1 3 90 66, 0, 0)))) (e_T 67 (e_T 66 (e_L 66 (0, ei_load 0 2 67, 0, 0)) (e_L 67 (0, ei_load 2 0 68, 0, 0))) (e_T 68 (e_L 68 (0, ei_load 3 0 69, 0, 0)) (e_L 69 (2, e_nof, 372, 3))))) (e_T 77 (e_T 74 (e_T 72 (e_L 72 (0, ei_stor 4 0 74, 0, 0)) (e_L 74 (0, ei_load 4 0 76, 0, 0))) (e_T 76 (e_L 76 (0, ei_push (0, (-1)) 77, 0, 0)) (e_L 77 (0, ei_if2 2 84 80, 0, 0)))) (e_T 81 (e_T 80 (e_L 80 (0, ei_push (0, 1) 81, 0, 0)) (e_L 81 (0, ei_goto 85, 0, 0))) (e_T 84 (e_L 84 (0, ei_push (0, 0) 85, 0, 0)) (e_T 85 (e_L 85 (0, ei_stor 5 0 87, 0, 0)) (e_L 87 (0, ei_goto 11, 0, 0))))))) (e_T 102 (e_T 97 (e_T 93 (e_T 90 (e_L 90 (0, ei_push (0, 900) 93, 0, 0)) (e_L 93 (0, ei_load 0 2 94, 0, 0))) (e_T 94 (e_L 94 (0, ei_getf eft elay 12 98 97, 0, 0)) (e_L 97 (0, ei_bin eF_mul 98, 0, 0)))) (e_T 100 (e_T 98 (e_L 98 (0, ei_load 4 0 100, 0, 0)) (e_L 100 (0, ei_push (0, 3) 101, 0, 0))) (e_T 101 (e_L 101 (0, ei_bin eF_div 102, 0, 0)) (e_L 102 (0, ei_bin eF_add 103, 0, 0))))) (e_T 108 (e_T 105 (e_T 103 (e_L 103 (0, ei_stor 6 0 105, 0, 0)) (e_L 105 (0, ei_load 4 0 107, 0, 0))) (e_T 107 (e_L 107 (0, ei_push (0, 3) 108, 0, 0)) (e_L 108 (0, ei_bin eF_rem 109, 0, 0)))) (e_T 111 (e_T 109 (e_L 109 (0, ei_stor 7 0 111, 0, 0)) (e_L 111 (0, ei_load 7 0 113, 0, 0))) (e_T 113 (e_L 113 (0, ei_if1 1 160 116, 0, 0)) (e_T 116 (e_L 116 (0, ei_load 2 0 117, 0, 0)) (e_L 117 (0, ei_push (0, 1) 118, 0, 0))))))))
set_option maxRecDepth 20000 in
set_option maxHeartbeats 4000000 in
theorem te_371_33_ok : ∀ pc, e_EOq eft cls elay eI n_371 pc (te_371_33 pc) :=
  (e_Tok2
  (e_Tok2
  (e_Tok2
  (e_Tok2
  (e_Tok2
  (e_Lok (lk_12_678 ho_371 (x_dk dn_371_0_1_ok 8 rfl)))
  (e_Lok (e_rt (I := eI) (k := 0) ⟨(x_dk dn_371_0_1_ok 9 rfl), rfl⟩)))
  (e_Tok2
  (e_Lok (ld_iload_4 (x_dk dn_371_0_1_ok 10 rfl)))
  (e_Lok (e_st (I := eI) (er_ifge (off := 27) (tg := 90) (x_dk dn_371_0_1_ok 11 rfl) (by decide)) nx_if1))))
  (e_Tok2
  (e_Tok2
  (e_Lok (ld_aload_n_0 (x_dk dn_371_0_1_ok 12 rfl)))
  (e_Lok (ld_iload_n_2 (x_dk dn_371_0_1_ok 13 rfl))))
  (e_Tok2
  (e_Lok (ld_iload_n_3 (x_dk dn_371_0_1_ok 14 rfl)))
  (e_Lok (lk_12_687 ho_371 (x_dk dn_371_0_1_ok 15 rfl))))))
  (e_Tok2
  (e_Tok2
  (e_Tok2
  (e_Lok (e_st (I := eI) (er_istore (i := 4) (x_dk dn_371_0_1_ok 16 rfl) (by decide +kernel)) nx_stor))
  (e_Lok (ld_iload_4 (x_dk dn_371_0_1_ok 17 rfl))))
  (e_Tok2
  (e_Lok (ps_iconst_m1 (x_dk dn_371_0_1_ok 18 rfl)))
  (e_Lok (e_st (I := eI) (er_icmplt (off := 7) (tg := 84) (x_dk dn_371_0_1_ok 19 rfl) (by decide)) nx_if2))))
  (e_Tok2
  (e_Tok2
  (e_Lok (ps_iconst_1 (x_dk dn_371_0_1_ok 20 rfl)))
  (e_Lok (e_st (I := eI) (er_goto (off := 4) (tg := 85) (x_dk dn_371_0_1_ok 21 rfl) (by decide)) nx_goto)))
  (e_Tok2
  (e_Lok (ps_iconst_0 (x_dk dn_371_0_1_ok 22 rfl)))
  (e_Tok2
  (e_Lok (e_st (I := eI) (er_istore (i := 5) (x_dk dn_371_0_1_ok 23 rfl) (by decide +kernel)) nx_stor))
  (e_Lok (e_st (I := eI) (er_goto (off := (-76)) (tg := 11) (x_dk dn_371_0_1_ok 24 rfl) (by decide)) nx_goto)))))))
  (e_Tok2
  (e_Tok2
  (e_Tok2
  (e_Tok2
  (e_Lok (ps_sipush_900 (x_dk dn_371_0_2_ok 0 rfl)))
  (e_Lok (ld_aload_n_0 (x_dk dn_371_0_2_ok 1 rfl))))
  (e_Tok2
  (e_Lok (lk_12_663g ho_371 (x_dk dn_371_0_2_ok 2 rfl)))
  (e_Lok (sm_imul (x_dk dn_371_0_2_ok 3 rfl)))))
  (e_Tok2
  (e_Tok2
  (e_Lok (ld_iload_4 (x_dk dn_371_0_2_ok 4 rfl)))
  (e_Lok (ps_iconst_3 (x_dk dn_371_0_2_ok 5 rfl))))
  (e_Tok2
  (e_Lok (e_st (I := eI) (er_idiv (x_dk dn_371_0_2_ok 6 rfl)) nx_bin))
  (e_Lok (sm_iadd (x_dk dn_371_0_2_ok 7 rfl))))))
  (e_Tok2
  (e_Tok2
  (e_Tok2
  (e_Lok (e_st (I := eI) (er_istore (i := 6) (x_dk dn_371_0_2_ok 8 rfl) (by decide +kernel)) nx_stor))
  (e_Lok (ld_iload_4 (x_dk dn_371_0_2_ok 9 rfl))))
  (e_Tok2
  (e_Lok (ps_iconst_3 (x_dk dn_371_0_2_ok 10 rfl)))
  (e_Lok (e_st (I := eI) (er_irem (x_dk dn_371_0_2_ok 11 rfl)) nx_bin))))
  (e_Tok2
  (e_Tok2
  (e_Lok (e_st (I := eI) (er_istore (i := 7) (x_dk dn_371_0_2_ok 12 rfl) (by decide +kernel)) nx_stor))
  (e_Lok (ld_iload_7 (x_dk dn_371_0_2_ok 13 rfl))))
  (e_Tok2
  (e_Lok (e_st (I := eI) (er_ifne (off := 47) (tg := 160) (x_dk dn_371_0_2_ok 14 rfl) (by decide)) nx_if1))
  (e_Tok2
  (e_Lok (ld_iload_n_2 (x_dk dn_371_0_2_ok 15 rfl)))
  (e_Lok (ps_iconst_1 (x_dk dn_371_0_2_ok 16 rfl)))))))))
def te_371_67 : Nat → eE := (e_T 144 (e_T 132 (e_T 125 (e_T 121 (e_T 118 (e_L 118 (0, ei_if2 1 160 121, 0, 0)) (e_L 121 (0, ei_load 0 2 122, 0, 0))) (e_T 122 (e_L 122 (0, ei_getf eft elay 12 69 125, 0, 0)) (e_L 125 (0, ei_load 6 0 127, 0, 0)))) (e_T 128 (e_T 127 (e_L 127 (0, ei_ald elay false 128, 0, 0)) (e_L 128 (0, ei_if1 2 160 131, 0, 0))) (e_T 131 (e_L 131 (0, ei_load 0 2 132, 0, 0)) (e_L 132 (0, ei_getf eft elay 12 0 135, 0, 0))))) (e_T 140 (e_T 136 (e_T 135 (e_L 135 (0, ei_load 0 2 136, 0, 0)) (e_L 136 (0, ei_getf eft elay 12 97 139, 0, 0))) (e_T 139 (e_L 139 (0, ei_push (0, 3) 140, 0, 0)) (e_L 140 (0, ei_bin eF_add 141, 0, 0)))) (e_T 142 (e_T 141 (e_L 141 (0, ei_load 3 0 142, 0, 0)) (e_L 142 (0, ei_ast elay false 143, 0, 0))) (e_T 143 (e_L 143 (0, ei_load 0 2 144, 0, 0)) (e_L 144 (0, ei_load 0 2 145, 0, 0)))))) (e_T 160 (e_T 151 (e_T 148 (e_T 145 (e_L 145 (0, ei_getf eft elay 12 69 148, 0, 0)) (e_L 148 (0, ei_load 6 0 150, 0, 0))) (e_T 150 (e_L 150 (0, ei_ald elay false 151, 0, 0)) (e_L 151 (2, e_nof, 365, 2)))) (e_T 155 (e_T 154 (e_L 154 (0, ei_push (0, 0) 155, 0, 0)) (e_L 155 (0, ei_stor 5 0 157, 0, 0))) (e_T 157 (e_L 157 (0, ei_goto 234, 0, 0)) (e_L 160 (0, ei_load 7 0 162, 0, 0))))) (e_T 167 (e_T 163 (e_T 162 (e_L 162 (0, ei_push (0, 2) 163, 0, 0)) (e_L 163 (0, ei_if2 3 199 166, 0, 0))) (e_T 166 (e_L 166 (0, ei_load 0 2 167, 0, 0)) (e_L 167 (0, ei_getf eft elay 12 70 170, 0, 0)))) (e_T 172 (e_T 170 (e_L 170 (0, ei_load 6 0 172, 0, 0)) (e_L 172 (0, ei_ald elay false 173, 0, 0))) (e_T 173 (e_L 173 (0, ei_if1 2 199 176, 0, 0)) (e_T 176 (e_L 176 (0, ei_load 0 2 177, 0, 0)) (e_L 177 (0, ei_load 2 0 178, 0, 0))))))))
set_option maxRecDepth 20000 in
set_option maxHeartbeats 4000000 in
theorem te_371_67_ok : ∀ pc, e_EOq eft cls elay eI n_371 pc (te_371_67 pc) :=
  (e_Tok2
  (e_Tok2
  (e_Tok2
  (e_Tok2
  (e_Tok2
  (e_Lok (e_st (I := eI) (er_icmpne (off := 42) (tg := 160) (x_dk dn_371_0_2_ok 17 rfl) (by decide)) nx_if2))
  (e_Lok (ld_aload_n_0 (x_dk dn_371_0_2_ok 18 rfl))))
  (e_Tok2
  (e_Lok (lk_12_183g ho_371 (x_dk dn_371_0_2_ok 19 rfl)))
  (e_Lok (ld_iload_6 (x_dk dn_371_0_2_ok 20 rfl)))))
  (e_Tok2
  (e_Tok2
  (e_Lok (sm_iaload (x_dk dn_371_0_2_ok 21 rfl)))
  (e_Lok (e_st (I := eI) (er_iflt (off := 32) (tg := 160) (x_dk dn_371_0_2_ok 22 rfl) (by decide)) nx_if1)))
  (e_Tok2
  (e_Lok (ld_aload_n_0 (x_dk dn_371_0_2_ok 23 rfl)))
  (e_Lok (lk_12_8g ho_371 (x_dk dn_371_0_2_ok 24 rfl))))))
  (e_Tok2
  (e_Tok2
  (e_Tok2
  (e_Lok (ld_aload_n_0 (x_dk dn_371_0_3_ok 0 rfl)))
  (e_Lok (lk_12_651g ho_371 (x_dk dn_371_0_3_ok 1 rfl))))
  (e_Tok2
  (e_Lok (ps_iconst_3 (x_dk dn_371_0_3_ok 2 rfl)))
  (e_Lok (sm_iadd (x_dk dn_371_0_3_ok 3 rfl)))))
  (e_Tok2
  (e_Tok2
  (e_Lok (ld_iload_n_3 (x_dk dn_371_0_3_ok 4 rfl)))
  (e_Lok (sm_iastore (x_dk dn_371_0_3_ok 5 rfl))))
  (e_Tok2
  (e_Lok (ld_aload_n_0 (x_dk dn_371_0_3_ok 6 rfl)))
  (e_Lok (ld_aload_n_0 (x_dk dn_371_0_3_ok 7 rfl)))))))
  (e_Tok2
  (e_Tok2
  (e_Tok2
  (e_Tok2
  (e_Lok (lk_12_183g ho_371 (x_dk dn_371_0_3_ok 8 rfl)))
  (e_Lok (ld_iload_6 (x_dk dn_371_0_3_ok 9 rfl))))
  (e_Tok2
  (e_Lok (sm_iaload (x_dk dn_371_0_3_ok 10 rfl)))
  (e_Lok (lk_12_678 ho_371 (x_dk dn_371_0_3_ok 11 rfl)))))
  (e_Tok2
  (e_Tok2
  (e_Lok (ps_iconst_0 (x_dk dn_371_0_3_ok 12 rfl)))
  (e_Lok (e_st (I := eI) (er_istore (i := 5) (x_dk dn_371_0_3_ok 13 rfl) (by decide +kernel)) nx_stor)))
  (e_Tok2
  (e_Lok (e_st (I := eI) (er_goto (off := 77) (tg := 234) (x_dk dn_371_0_3_ok 14 rfl) (by decide)) nx_goto))
  (e_Lok (ld_iload_7 (x_dk dn_371_0_3_ok 15 rfl))))))
  (e_Tok2
  (e_Tok2
  (e_Tok2
  (e_Lok (ps_iconst_2 (x_dk dn_371_0_3_ok 16 rfl)))
  (e_Lok (e_st (I := eI) (er_icmpge (off := 36) (tg := 199) (x_dk dn_371_0_3_ok 17 rfl) (by decide)) nx_if2)))
  (e_Tok2
  (e_Lok (ld_aload_n_0 (x_dk dn_371_0_3_ok 18 rfl)))
  (e_Lok (lk_12_186g ho_371 (x_dk dn_371_0_3_ok 19 rfl)))))
  (e_Tok2
  (e_Tok2
  (e_Lok (ld_iload_6 (x_dk dn_371_0_3_ok 20 rfl)))
  (e_Lok (sm_iaload (x_dk dn_371_0_3_ok 21 rfl))))
  (e_Tok2
  (e_Lok (e_st (I := eI) (er_iflt (off := 26) (tg := 199) (x_dk dn_371_0_3_ok 22 rfl) (by decide)) nx_if1))
  (e_Tok2
  (e_Lok (ld_aload_n_0 (x_dk dn_371_0_3_ok 23 rfl)))
  (e_Lok (ld_iload_n_2 (x_dk dn_371_0_3_ok 24 rfl)))))))))
def te_371_100 : Nat → eE := (e_T 209 (e_T 190 (e_T 183 (e_T 179 (e_T 178 (e_L 178 (0, ei_load 3 0 179, 0, 0)) (e_L 179 (2, e_nof, 370, 3))) (e_T 182 (e_L 182 (0, ei_load 0 2 183, 0, 0)) (e_L 183 (0, ei_load 0 2 184, 0, 0)))) (e_T 187 (e_T 184 (e_L 184 (0, ei_getf eft elay 12 70 187, 0, 0)) (e_L 187 (0, ei_load 6 0 189, 0, 0))) (e_T 189 (e_L 189 (0, ei_ald elay false 190, 0, 0)) (e_L 190 (2, e_nof, 365, 2))))) (e_T 199 (e_T 194 (e_T 193 (e_L 193 (0, ei_push (0, 0) 194, 0, 0)) (e_L 194 (0, ei_stor 5 0 196, 0, 0))) (e_T 196 (e_L 196 (0, ei_goto 234, 0, 0)) (e_L 199 (0, ei_load 0 2 200, 0, 0)))) (e_T 203 (e_T 200 (e_L 200 (0, ei_getf eft elay 12 0 203, 0, 0)) (e_L 203 (0, ei_load 0 2 204, 0, 0))) (e_T 204 (e_L 204 (0, ei_getf eft elay 12 97 207, 0, 0)) (e_T 207 (e_L 207 (0, ei_push (0, 13) 209, 0, 0)) (e_L 209 (0, ei_bin eF_add 210, 0, 0))))))) (e_T 222 (e_T 214 (e_T 211 (e_T 210 (e_L 210 (0, ei_stk ef_dup2 211, 0, 0)) (e_L 211 (0, ei_ald elay false 212, 0, 0))) (e_T 212 (e_L 212 (0, ei_load 7 0 214, 0, 0)) (e_L 214 (0, ei_push (0, 2) 215, 0, 0)))) (e_T 218 (e_T 215 (e_L 215 (0, ei_if2 1 222 218, 0, 0)) (e_L 218 (0, ei_push (0, 1) 219, 0, 0))) (e_T 219 (e_L 219 (0, ei_goto 223, 0, 0)) (e_L 222 (0, ei_push (0, 0) 223, 0, 0))))) (e_T 226 (e_T 224 (e_T 223 (e_L 223 (0, ei_bin eF_sub 224, 0, 0)) (e_L 224 (0, ei_ast elay false 225, 0, 0))) (e_T 225 (e_L 225 (0, ei_load 0 2 226, 0, 0)) (e_L 226 (0, ei_getf eft elay 12 68 229, 0, 0)))) (e_T 231 (e_T 229 (e_L 229 (0, ei_load 6 0 231, 0, 0)) (e_L 231 (0, ei_ald elay false 232, 0, 0))) (e_T 232 (e_L 232 (0, ei_stor 4 0 234, 0, 0)) (e_T 234 (e_L 234 (0, ei_goto 11, 0, 0)) (e_L 237 (1, e_nof, 0, 0))))))))
set_option maxRecDepth 20000 in
set_option maxHeartbeats 4000000 in
theorem te_371_100_ok : ∀ pc, e_EOq eft cls elay eI n_371 pc (te_371_100 pc) :=
  (e_Tok2
  (e_Tok2
  (e_Tok2
  (e_Tok2
  (e_Tok2
  (e_Lok (ld_iload_n_3 (x_dk dn_371_1_0_ok 0 rfl)))
  (e_Lok (lk_12_690 ho_371 (x_dk dn_371_1_0_ok 1 rfl))))
  (e_Tok2
  (e_Lok (ld_aload_n_0 (x_dk dn_371_1_0_ok 2 rfl)))
  (e_Lok (ld_aload_n_0 (x_dk dn_371_1_0_ok 3 rfl)))))
  (e_Tok2
  (e_Tok2
  (e_Lok (lk_12_186g ho_371 (x_dk dn_371_1_0_ok 4 rfl)))
  (e_Lok (ld_iload_6 (x_dk dn_371_1_0_ok 5 rfl))))
  (e_Tok2
  (e_Lok (sm_iaload (x_dk dn_371_1_0_ok 6 rfl)))
  (e_Lok (lk_12_678 ho_371 (x_dk dn_371_1_0_ok 7 rfl))))))
  (e_Tok2
  (e_Tok2
  (e_Tok2
  (e_Lok (ps_iconst_0 (x_dk dn_371_1_0_ok 8 rfl)))
  (e_Lok (e_st (I := eI) (er_istore (i := 5) (x_dk dn_371_1_0_ok 9 rfl) (by decide +kernel)) nx_stor)))
  (e_Tok2
  (e_Lok (e_st (I := eI) (er_goto (off := 38) (tg := 234) (x_dk dn_371_1_0_ok 10 rfl) (by decide)) nx_goto))
  (e_Lok (ld_aload_n_0 (x_dk dn_371_1_0_ok 11 rfl)))))
  (e_Tok2
  (e_Tok2
  (e_Lok (lk_12_8g ho_371 (x_dk dn_371_1_0_ok 12 rfl)))
  (e_Lok (ld_aload_n_0 (x_dk dn_371_1_0_ok 13 rfl))))
  (e_Tok2
  (e_Lok (lk_12_651g ho_371 (x_dk dn_371_1_0_ok 14 rfl)))
  (e_Tok2
  (e_Lok (ps_bipush_13 (x_dk dn_371_1_0_ok 15 rfl)))
  (e_Lok (sm_iadd (x_dk dn_371_1_0_ok 16 rfl))))))))
  (e_Tok2
  (e_Tok2
  (e_Tok2
  (e_Tok2
  (e_Lok (e_st (I := eI) (er_dup2 (x_dk dn_371_1_0_ok 17 rfl)) (nx_stk bf_dup2)))
  (e_Lok (sm_iaload (x_dk dn_371_1_0_ok 18 rfl))))
  (e_Tok2
  (e_Lok (ld_iload_7 (x_dk dn_371_1_0_ok 19 rfl)))
  (e_Lok (ps_iconst_2 (x_dk dn_371_1_0_ok 20 rfl)))))
  (e_Tok2
  (e_Tok2
  (e_Lok (e_st (I := eI) (er_icmpne (off := 7) (tg := 222) (x_dk dn_371_1_0_ok 21 rfl) (by decide)) nx_if2))
  (e_Lok (ps_iconst_1 (x_dk dn_371_1_0_ok 22 rfl))))
  (e_Tok2
  (e_Lok (e_st (I := eI) (er_goto (off := 4) (tg := 223) (x_dk dn_371_1_0_ok 23 rfl) (by decide)) nx_goto))
  (e_Lok (ps_iconst_0 (x_dk dn_371_1_0_ok 24 rfl))))))
  (e_Tok2
  (e_Tok2
  (e_Tok2
  (e_Lok (sm_isub (x_dk dn_371_1_1_ok 0 rfl)))
  (e_Lok (sm_iastore (x_dk dn_371_1_1_ok 1 rfl))))
  (e_Tok2
  (e_Lok (ld_aload_n_0 (x_dk dn_371_1_1_ok 2 rfl)))
  (e_Lok (lk_12_180g ho_371 (x_dk dn_371_1_1_ok 3 rfl)))))
  (e_Tok2
  (e_Tok2
  (e_Lok (ld_iload_6 (x_dk dn_371_1_1_ok 4 rfl)))
  (e_Lok (sm_iaload (x_dk dn_371_1_1_ok 5 rfl))))
  (e_Tok2
  (e_Lok (e_st (I := eI) (er_istore (i := 4) (x_dk dn_371_1_1_ok 6 rfl) (by decide +kernel)) nx_stor))
  (e_Tok2
  (e_Lok (e_st (I := eI) (er_goto (off := (-223)) (tg := 11) (x_dk dn_371_1_1_ok 7 rfl) (by decide)) nx_goto))
  (e_Lok (e_rt (I := eI) (k := 0) ⟨(x_dk dn_371_1_1_ok 8 rfl), rfl⟩))))))))
def te_371 : Nat → eE := (e_T 117 (e_T 56 te_371_0 te_371_33) (e_T 177 te_371_67 te_371_100))
theorem te_371_ok : ∀ pc, e_EOq eft cls elay eI n_371 pc (te_371 pc) := (e_Tok2 ((e_Tok2 (te_371_0_ok) (te_371_33_ok))) ((e_Tok2 (te_371_67_ok) (te_371_100_ok))))
theorem ho_372 : (xm_y n_372).cls = "RobotCellHouseModel" := rfl
def dn_372_0_0 : List (Nat × Instr × Nat) := [(0, .aload_n 0, 1), (1, .getfield 8, 3), (4, .aload_n 0, 1), (5, .invokevirtual 657, 3), (8, .iconst 1, 1), (9, .iadd, 1), (10, .iaload, 1), (11, .iconst 1, 1), (12, .if_icmp .ne 7, 3), (15, .iconst 1, 1), (16, .goto 4, 3), (19, .iconst 0, 1), (20, .istore_n 3, 1), (21, .aload_n 0, 1), (22, .getfield 8, 3), (25, .aload_n 0, 1), (26, .getfield 651, 3), (29, .bipush 12, 2), (31, .iadd, 1), (32, .dup2, 1), (33, .iaload, 1), (34, .iconst 1, 1), (35, .isub, 1), (36, .iastore, 1), (37, .aload_n 0, 1)]
set_option maxRecDepth 20000 in
theorem dn_372_0_0_ok : dn_372_0_0.all (fun q => decide (decode (xm_b n_372) q.1 = .ok (q.2.1, q.2.2))) = true := xa_g_ok (by decide +kernel)
def dn_372_0_1 : List (Nat × Instr × Nat) := [(38, .getfield 8, 3), (41, .aload_n 0, 1), (42, .getfield 651, 3), (45, .bipush 14, 2), (47, .iadd, 1), (48, .dup2, 1), (49, .iaload, 1), (50, .iload_n 3, 1), (51, .ifCond .eq 7, 3), (54, .iconst 1, 1), (55, .goto 4, 3), (58, .iconst 0, 1), (59, .isub, 1), (60, .iastore, 1), (61, .aload_n 0, 1), (62, .getfield 8, 3), (65, .aload_n 0, 1), (66, .getfield 651, 3), (69, .bipush 12, 2), (71, .iadd, 1), (72, .iaload, 1), (73, .ifCond .le 58, 3), (76, .iload_n 1, 1), (77, .iconst 1, 1), (78, .if_icmp .ne 27, 3)]
set_option maxRecDepth 20000 in
theorem dn_372_0_1_ok : dn_372_0_1.all (fun q => decide (decode (xm_b n_372) q.1 = .ok (q.2.1, q.2.2))) = true := xa_g_ok (by decide +kernel)
def dn_372_0_2 : List (Nat × Instr × Nat) := [(81, .aload_n 0, 1), (82, .getfield 177, 3), (85, .sipush 10000, 3), (88, .aload_n 0, 1), (89, .getfield 663, 3), (92, .imul, 1), (93, .aload_n 0, 1), (94, .getfield 8, 3), (97, .aload_n 0, 1), (98, .invokevirtual 657, 3), (101, .iaload, 1), (102, .iadd, 1), (103, .iaload, 1), (104, .ireturn, 1), (105, .aload_n 0, 1), (106, .aload_n 0, 1), (107, .getfield 8, 3), (110, .aload_n 0, 1), (111, .invokevirtual 657, 3), (114, .iaload, 1), (115, .iload_n 3, 1), (116, .ifCond .eq 7, 3), (119, .iconst 0, 1), (120, .goto 4, 3), (123, .iconst 1, 1)]
set_option maxRecDepth 20000 in
theorem dn_372_0_2_ok : dn_372_0_2.all (fun q => decide (decode (xm_b n_372) q.1 = .ok (q.2.1, q.2.2))) = true := xa_g_ok (by decide +kernel)
def dn_372_0_3 : List (Nat × Instr × Nat) := [(124, .iadd, 1), (125, .invokevirtual 678, 3), (128, .bipush (-2), 2), (130, .ireturn, 1), (131, .aload_n 0, 1), (132, .iconst 1, 1), (133, .putfield 669, 3), (136, .iload_n 1, 1), (137, .iconst 1, 1), (138, .if_icmp .ne 73, 3), (141, .aload_n 0, 1), (142, .getfield 8, 3), (145, .aload_n 0, 1), (146, .getfield 651, 3), (149, .bipush 7, 2), (151, .iastore, 1), (152, .aload_n 0, 1), (153, .getfield 8, 3), (156, .aload_n 0, 1), (157, .getfield 651, 3), (160, .iconst 2, 1), (161, .iadd, 1), (162, .iload_n 2, 1), (163, .iastore, 1), (164, .aload_n 0, 1)]
set_option maxRecDepth 20000 in
theorem dn_372_0_3_ok : dn_372_0_3.all (fun q => decide (decode (xm_b n_372) q.1 = .ok (q.2.1, q.2.2))) = true := xa_g_ok (by decide +kernel)
def dn_372_1_0 : List (Nat × Instr × Nat) := [(165, .getfield 8, 3), (168, .aload_n 0, 1), (169, .getfield 663, 3), (172, .invokestatic 294, 3), (175, .iconst 2, 1), (176, .iadd, 1), (177, .aload_n 0, 1), (178, .getfield 660, 3), (181, .iastore, 1), (182, .aload_n 0, 1), (183, .iconst 5, 1), (184, .aload_n 0, 1), (185, .getfield 660, 3), (188, .iload_n 2, 1), (189, .invokevirtual 693, 3), (192, .aload_n 0, 1), (193, .aload_n 0, 1), (194, .getfield 660, 3), (197, .invokevirtual 696, 3), (200, .aload_n 0, 1), (201, .aload_n 0, 1), (202, .getfield 663, 3), (205, .invokevirtual 699, 3), (208, .goto 32, 3), (211, .aload_n 0, 1)]
set_option maxRecDepth 20000 in
theorem dn_372_1_0_ok : dn_372_1_0.all (fun q => decide (decode (xm_b n_372) q.1 = .ok (q.2.1, q.2.2))) = true := xa_g_ok (by decide +kernel)
def dn_372_1_1 : List (Nat × Instr × Nat) := [(212, .getfield 8, 3), (215, .aload_n 0, 1), (216, .getfield 651, 3), (219, .bipush 6, 2), (221, .iastore, 1), (222, .aload_n 0, 1), (223, .iconst 4, 1), (224, .aload_n 0, 1), (225, .getfield 660, 3), (228, .iconst 0, 1), (229, .invokevirtual 693, 3), (232, .aload_n 0, 1), (233, .aload_n 0, 1), (234, .getfield 660, 3), (237, .invokevirtual 696, 3), (240, .bipush (-2), 2), (242, .ireturn, 1)]
set_option maxRecDepth 20000 in
theorem dn_372_1_1_ok : dn_372_1_1.all (fun q => decide (decode (xm_b n_372) q.1 = .ok (q.2.1, q.2.2))) = true := xa_g_ok (by decide +kernel)
def te_372_0 : Nat → eE := (e_T 26 (e_T 11 (e_T 5 (e_T 1 (e_T 0 (e_L 0 (0, ei_load 0 2 1, 0, 0)) (e_L 1 (0, ei_getf eft elay 12 0 4, 0, 0))) (e_T 4 (e_L 4 (0, ei_load 0 2 5, 0, 0)) (e_L 5 (2, e_nof, 362, 1)))) (e_T 9 (e_T 8 (e_L 8 (0, ei_push (0, 1) 9, 0, 0)) (e_L 9 (0, ei_bin eF_add 10, 0, 0))) (e_T 10 (e_L 10 (0, ei_ald elay false 11, 0, 0)) (e_L 11 (0, ei_push (0, 1) 12, 0, 0))))) (e_T 19 (e_T 15 (e_T 12 (e_L 12 (0, ei_if2 1 19 15, 0, 0)) (e_L 15 (0, ei_push (0, 1) 16, 0, 0))) (e_T 16 (e_L 16 (0, ei_goto 20, 0, 0)) (e_L 19 (0, ei_push (0, 0) 20, 0, 0)))) (e_T 21 (e_T 20 (e_L 20 (0, ei_stor 3 0 21, 0, 0)) (e_L 21 (0, ei_load 0 2 22, 0, 0))) (e_T 22 (e_L 22 (0, ei_getf eft elay 12 0 25, 0, 0)) (e_T 25 (e_L 25 (0, ei_load 0 2 26, 0, 0)) (e_L 26 (0, ei_getf eft elay 12 97 29, 0, 0))))))) (e_T 38 (e_T 33 (e_T 31 (e_T 29 (e_L 29 (0, ei_push (0, 12) 31, 0, 0)) (e_L 31 (0, ei_bin eF_add 32, 0, 0))) (e_T 32 (e_L 32 (0, ei_stk ef_dup2 33, 0, 0)) (e_L 33 (0, ei_ald elay false 34, 0, 0)))) (e_T 35 (e_T 34 (e_L 34 (0, ei_push (0, 1) 35, 0, 0)) (e_L 35 (0, ei_bin eF_sub 36, 0, 0))) (e_T 36 (e_L 36 (0, ei_ast elay false 37, 0, 0)) (e_T 37 (e_L 37 (0, ei_load 0 2 38, 0, 0)) (e_L 38 (0, ei_getf eft elay 12 0 41, 0, 0)))))) (e_T 47 (e_T 42 (e_T 41 (e_L 41 (0, ei_load 0 2 42, 0, 0)) (e_L 42 (0, ei_getf eft elay 12 97 45, 0, 0))) (e_T 45 (e_L 45 (0, ei_push (0, 14) 47, 0, 0)) (e_L 47 (0, ei_bin eF_add 48, 0, 0)))) (e_T 49 (e_T 48 (e_L 48 (0, ei_stk ef_dup2 49, 0, 0)) (e_L 49 (0, ei_ald elay false 50, 0, 0))) (e_T 50 (e_L 50 (0, ei_load 3 0 51, 0, 0)) (e_T 51 (e_L 51 (0, ei_if1 0 58 54, 0, 0)) (e_L 54 (0, ei_push (0, 1) 55, 0, 0))))))))
set_option maxRecDepth 20000 in
set_option maxHeartbeats 4000000 in
theorem te_372_0_ok : ∀ pc, e_EOq eft cls elay eI n_372 pc (te_372_0 pc) :=
  (e_Tok2
  (e_Tok2
  (e_Tok2
  (e_Tok2
  (e_Tok2
  (e_Lok (ld_aload_n_0 (x_dk dn_372_0_0_ok 0 rfl)))
  (e_Lok (lk_12_8g ho_372 (x_dk dn_372_0_0_ok 1 rfl))))
  (e_Tok2
  (e_Lok (ld_aload_n_0 (x_dk dn_372_0_0_ok 2 rfl)))
  (e_Lok (lk_12_657 ho_372 (x_dk dn_372_0_0_ok 3 rfl)))))
  (e_Tok2
  (e_Tok2
  (e_Lok (ps_iconst_1 (x_dk dn_372_0_0_ok 4 rfl)))
  (e_Lok (sm_iadd (x_dk dn_372_0_0_ok 5 rfl))))
  (e_Tok2
  (e_Lok (sm_iaload (x_dk dn_372_0_0_ok 6 rfl)))
  (e_Lok (ps_iconst_1 (x_dk dn_372_0_0_ok 7 rfl))))))
  (e_Tok2
  (e_Tok2
  (e_Tok2
  (e_Lok (e_st (I := eI) (er_icmpne (off := 7) (tg := 19) (x_dk dn_372_0_0_ok 8 rfl) (by decide)) nx_if2))
  (e_Lok (ps_iconst_1 (x_dk dn_372_0_0_ok 9 rfl))))
  (e_Tok2
  (e_Lok (e_st (I := eI) (er_goto (off := 4) (tg := 20) (x_dk dn_372_0_0_ok 10 rfl) (by decide)) nx_goto))
  (e_Lok (ps_iconst_0 (x_dk dn_372_0_0_ok 11 rfl)))))
  (e_Tok2
  (e_Tok2
  (e_Lok (e_st (I := eI) (er_istore_n (i := 3) (x_dk dn_372_0_0_ok 12 rfl) (by decide +kernel)) nx_stor))
  (e_Lok (ld_aload_n_0 (x_dk dn_372_0_0_ok 13 rfl))))
  (e_Tok2
  (e_Lok (lk_12_8g ho_372 (x_dk dn_372_0_0_ok 14 rfl)))
  (e_Tok2
  (e_Lok (ld_aload_n_0 (x_dk dn_372_0_0_ok 15 rfl)))
  (e_Lok (lk_12_651g ho_372 (x_dk dn_372_0_0_ok 16 rfl))))))))
  (e_Tok2
  (e_Tok2
  (e_Tok2
  (e_Tok2
  (e_Lok (ps_bipush_12 (x_dk dn_372_0_0_ok 17 rfl)))
  (e_Lok (sm_iadd (x_dk dn_372_0_0_ok 18 rfl))))
  (e_Tok2
  (e_Lok (e_st (I := eI) (er_dup2 (x_dk dn_372_0_0_ok 19 rfl)) (nx_stk bf_dup2)))
  (e_Lok (sm_iaload (x_dk dn_372_0_0_ok 20 rfl)))))
  (e_Tok2
  (e_Tok2
  (e_Lok (ps_iconst_1 (x_dk dn_372_0_0_ok 21 rfl)))
  (e_Lok (sm_isub (x_dk dn_372_0_0_ok 22 rfl))))
  (e_Tok2
  (e_Lok (sm_iastore (x_dk dn_372_0_0_ok 23 rfl)))
  (e_Tok2
  (e_Lok (ld_aload_n_0 (x_dk dn_372_0_0_ok 24 rfl)))
  (e_Lok (lk_12_8g ho_372 (x_dk dn_372_0_1_ok 0 rfl)))))))
  (e_Tok2
  (e_Tok2
  (e_Tok2
  (e_Lok (ld_aload_n_0 (x_dk dn_372_0_1_ok 1 rfl)))
  (e_Lok (lk_12_651g ho_372 (x_dk dn_372_0_1_ok 2 rfl))))
  (e_Tok2
  (e_Lok (ps_bipush_14 (x_dk dn_372_0_1_ok 3 rfl)))
  (e_Lok (sm_iadd (x_dk dn_372_0_1_ok 4 rfl)))))
  (e_Tok2
  (e_Tok2
  (e_Lok (e_st (I := eI) (er_dup2 (x_dk dn_372_0_1_ok 5 rfl)) (nx_stk bf_dup2)))
  (e_Lok (sm_iaload (x_dk dn_372_0_1_ok 6 rfl))))
  (e_Tok2
  (e_Lok (ld_iload_n_3 (x_dk dn_372_0_1_ok 7 rfl)))
  (e_Tok2
  (e_Lok (e_st (I := eI) (er_ifeq (off := 7) (tg := 58) (x_dk dn_372_0_1_ok 8 rfl) (by decide)) nx_if1))
  (e_Lok (ps_iconst_1 (x_dk dn_372_0_1_ok 9 rfl)))))))))
def te_372_35 : Nat → eE := (e_T 85 (e_T 69 (e_T 60 (e_T 58 (e_T 55 (e_L 55 (0, ei_goto 59, 0, 0)) (e_L 58 (0, ei_push (0, 0) 59, 0, 0))) (e_T 59 (e_L 59 (0, ei_bin eF_sub 60, 0, 0)) (e_L 60 (0, ei_ast elay false 61, 0, 0)))) (e_T 62 (e_T 61 (e_L 61 (0, ei_load 0 2 62, 0, 0)) (e_L 62 (0, ei_getf eft elay 12 0 65, 0, 0))) (e_T 65 (e_L 65 (0, ei_load 0 2 66, 0, 0)) (e_T 66 (e_L 66 (0, ei_getf eft elay 12 97 69, 0, 0)) (e_L 69 (0, ei_push (0, 12) 71, 0, 0)))))) (e_T 76 (e_T 72 (e_T 71 (e_L 71 (0, ei_bin eF_add 72, 0, 0)) (e_L 72 (0, ei_ald elay false 73, 0, 0))) (e_T 73 (e_L 73 (0, ei_if1 5 131 76, 0, 0)) (e_L 76 (0, ei_load 1 0 77, 0, 0)))) (e_T 78 (e_T 77 (e_L 77 (0, ei_push (0, 1) 78, 0, 0)) (e_L 78 (0, ei_if2 1 105 81, 0, 0))) (e_T 81 (e_L 81 (0, ei_load 0 2 82, 0, 0)) (e_T 82 (e_L 82 (0, ei_getf eft elay 12 67 85, 0, 0)) (e_L 85 (0, ei_push (0, 10000) 88, 0, 0))))))) (e_T 102 (e_T 93 (e_T 89 (e_T 88 (e_L 88 (0, ei_load 0 2 89, 0, 0)) (e_L 89 (0, ei_getf eft elay 12 98 92, 0, 0))) (e_T 92 (e_L 92 (0, ei_bin eF_mul 93, 0, 0)) (e_L 93 (0, ei_load 0 2 94, 0, 0)))) (e_T 97 (e_T 94 (e_L 94 (0, ei_getf eft elay 12 0 97, 0, 0)) (e_L 97 (0, ei_load 0 2 98, 0, 0))) (e_T 98 (e_L 98 (2, e_nof, 362, 1)) (e_T 101 (e_L 101 (0, ei_ald elay false 102, 0, 0)) (e_L 102 (0, ei_bin eF_add 103, 0, 0)))))) (e_T 106 (e_T 104 (e_T 103 (e_L 103 (0, ei_ald elay false 104, 0, 0)) (e_L 104 (1, e_nof, 1, 0))) (e_T 105 (e_L 105 (0, ei_load 0 2 106, 0, 0)) (e_L 106 (0, ei_load 0 2 107, 0, 0)))) (e_T 110 (e_T 107 (e_L 107 (0, ei_getf eft elay 12 0 110, 0, 0)) (e_L 110 (0, ei_load 0 2 111, 0, 0))) (e_T 111 (e_L 111 (2, e_nof, 362, 1)) (e_T 114 (e_L 114 (0, ei_ald elay false 115, 0, 0)) (e_L 115 (0, ei_load 3 0 116, 0, 0))))))))
set_option maxRecDepth 20000 in
set_option maxHeartbeats 4000000 in
theorem te_372_35_ok : ∀ pc, e_EOq eft cls elay eI n_372 pc (te_372_35 pc) :=
  (e_Tok2
  (e_Tok2
  (e_Tok2
  (e_Tok2
  (e_Tok2
  (e_Lok (e_st (I := eI) (er_goto (off := 4) (tg := 59) (x_dk dn_372_0_1_ok 10 rfl) (by decide)) nx_goto))
  (e_Lok (ps_iconst_0 (x_dk dn_372_0_1_ok 11 rfl))))
  (e_Tok2
  (e_Lok (sm_isub (x_dk dn_372_0_1_ok 12 rfl)))
  (e_Lok (sm_iastore (x_dk dn_372_0_1_ok 13 rfl)))))
  (e_Tok2
  (e_Tok2
  (e_Lok (ld_aload_n_0 (x_dk dn_372_0_1_ok 14 rfl)))
  (e_Lok (lk_12_8g ho_372 (x_dk dn_372_0_1_ok 15 rfl))))
  (e_Tok2
  (e_Lok (ld_aload_n_0 (x_dk dn_372_0_1_ok 16 rfl)))
  (e_Tok2
  (e_Lok (lk_12_651g ho_372 (x_dk dn_372_0_1_ok 17 rfl)))
  (e_Lok (ps_bipush_12 (x_dk dn_372_0_1_ok 18 rfl)))))))
  (e_Tok2
  (e_Tok2
  (e_Tok2
  (e_Lok (sm_iadd (x_dk dn_372_0_1_ok 19 rfl)))
  (e_Lok (sm_iaload (x_dk dn_372_0_1_ok 20 rfl))))
  (e_Tok2
  (e_Lok (e_st (I := eI) (er_ifle (off := 58) (tg := 131) (x_dk dn_372_0_1_ok 21 rfl) (by decide)) nx_if1))
  (e_Lok (ld_iload_n_1 (x_dk dn_372_0_1_ok 22 rfl)))))
  (e_Tok2
  (e_Tok2
  (e_Lok (ps_iconst_1 (x_dk dn_372_0_1_ok 23 rfl)))
  (e_Lok (e_st (I := eI) (er_icmpne (off := 27) (tg := 105) (x_dk dn_372_0_1_ok 24 rfl) (by decide)) nx_if2)))
  (e_Tok2
  (e_Lok (ld_aload_n_0 (x_dk dn_372_0_2_ok 0 rfl)))
  (e_Tok2
  (e_Lok (lk_12_177g ho_372 (x_dk dn_372_0_2_ok 1 rfl)))
  (e_Lok (ps_sipush_10000 (x_dk dn_372_0_2_ok 2 rfl))))))))
  (e_Tok2
  (e_Tok2
  (e_Tok2
  (e_Tok2
  (e_Lok (ld_aload_n_0 (x_dk dn_372_0_2_ok 3 rfl)))
  (e_Lok (lk_12_663g ho_372 (x_dk dn_372_0_2_ok 4 rfl))))
  (e_Tok2
  (e_Lok (sm_imul (x_dk dn_372_0_2_ok 5 rfl)))
  (e_Lok (ld_aload_n_0 (x_dk dn_372_0_2_ok 6 rfl)))))
  (e_Tok2
  (e_Tok2
  (e_Lok (lk_12_8g ho_372 (x_dk dn_372_0_2_ok 7 rfl)))
  (e_Lok (ld_aload_n_0 (x_dk dn_372_0_2_ok 8 rfl))))
  (e_Tok2
  (e_Lok (lk_12_657 ho_372 (x_dk dn_372_0_2_ok 9 rfl)))
  (e_Tok2
  (e_Lok (sm_iaload (x_dk dn_372_0_2_ok 10 rfl)))
  (e_Lok (sm_iadd (x_dk dn_372_0_2_ok 11 rfl)))))))
  (e_Tok2
  (e_Tok2
  (e_Tok2
  (e_Lok (sm_iaload (x_dk dn_372_0_2_ok 12 rfl)))
  (e_Lok (e_rt (I := eI) (k := 1) ⟨(x_dk dn_372_0_2_ok 13 rfl), rfl⟩)))
  (e_Tok2
  (e_Lok (ld_aload_n_0 (x_dk dn_372_0_2_ok 14 rfl)))
  (e_Lok (ld_aload_n_0 (x_dk dn_372_0_2_ok 15 rfl)))))
  (e_Tok2
  (e_Tok2
  (e_Lok (lk_12_8g ho_372 (x_dk dn_372_0_2_ok 16 rfl)))
  (e_Lok (ld_aload_n_0 (x_dk dn_372_0_2_ok 17 rfl))))
  (e_Tok2
  (e_Lok (lk_12_657 ho_372 (x_dk dn_372_0_2_ok 18 rfl)))
  (e_Tok2
  (e_Lok (sm_iaload (x_dk dn_372_0_2_ok 19 rfl)))
  (e_Lok (ld_iload_n_3 (x_dk dn_372_0_2_ok 20 rfl)))))))))
def te_372_71 : Nat → eE := (e_T 145 (e_T 130 (e_T 123 (e_T 119 (e_T 116 (e_L 116 (0, ei_if1 0 123 119, 0, 0)) (e_L 119 (0, ei_push (0, 0) 120, 0, 0))) (e_T 120 (e_L 120 (0, ei_goto 124, 0, 0)) (e_L 123 (0, ei_push (0, 1) 124, 0, 0)))) (e_T 125 (e_T 124 (e_L 124 (0, ei_bin eF_add 125, 0, 0)) (e_L 125 (2, e_nof, 365, 2))) (e_T 128 (e_L 128 (0, ei_push (0, (-2)) 130, 0, 0)) (e_L 130 (1, e_nof, 1, 0))))) (e_T 136 (e_T 132 (e_T 131 (e_L 131 (0, ei_load 0 2 132, 0, 0)) (e_L 132 (0, ei_push (0, 1) 133, 0, 0))) (e_T 133 (e_L 133 (0, ei_putf eft elay 12 100 1 136, 0, 0)) (e_L 136 (0, ei_load 1 0 137, 0, 0)))) (e_T 138 (e_T 137 (e_L 137 (0, ei_push (0, 1) 138, 0, 0)) (e_L 138 (0, ei_if2 1 211 141, 0, 0))) (e_T 141 (e_L 141 (0, ei_load 0 2 142, 0, 0)) (e_T 142 (e_L 142 (0, ei_getf eft elay 12 0 145, 0, 0)) (e_L 145 (0, ei_load 0 2 146, 0, 0))))))) (e_T 161 (e_T 152 (e_T 149 (e_T 146 (e_L 146 (0, ei_getf eft elay 12 97 149, 0, 0)) (e_L 149 (0, ei_push (0, 7) 151, 0, 0))) (e_T 151 (e_L 151 (0, ei_ast elay false 152, 0, 0)) (e_L 152 (0, ei_load 0 2 153, 0, 0)))) (e_T 156 (e_T 153 (e_L 153 (0, ei_getf eft elay 12 0 156, 0, 0)) (e_L 156 (0, ei_load 0 2 157, 0, 0))) (e_T 157 (e_L 157 (0, ei_getf eft elay 12 97 160, 0, 0)) (e_T 160 (e_L 160 (0, ei_push (0, 2) 161, 0, 0)) (e_L 161 (0, ei_bin eF_add 162, 0, 0)))))) (e_T 165 (e_T 163 (e_T 162 (e_L 162 (0, ei_load 2 0 163, 0, 0)) (e_L 163 (0, ei_ast elay false 164, 0, 0))) (e_T 164 (e_L 164 (0, ei_load 0 2 165, 0, 0)) (e_L 165 (0, ei_getf eft elay 12 0 168, 0, 0)))) (e_T 169 (e_T 168 (e_L 168 (0, ei_load 0 2 169, 0, 0)) (e_L 169 (0, ei_getf eft elay 12 98 172, 0, 0))) (e_T 172 (e_L 172 (2, e_nof, 268, 1)) (e_T 175 (e_L 175 (0, ei_push (0, 2) 176, 0, 0)) (e_L 176 (0, ei_bin eF_add 177, 0, 0))))))))
set_option maxRecDepth 20000 in
set_option maxHeartbeats 4000000 in
theorem te_372_71_ok : ∀ pc, e_EOq eft cls elay eI n_372 pc (te_372_71 pc) :=
  (e_Tok2
  (e_Tok2
  (e_Tok2
  (e_Tok2
  (e_Tok2
  (e_Lok (e_st (I := eI) (er_ifeq (off := 7) (tg := 123) (x_dk dn_372_0_2_ok 21 rfl) (by decide)) nx_if1))
  (e_Lok (ps_iconst_0 (x_dk dn_372_0_2_ok 22 rfl))))
  (e_Tok2
  (e_Lok (e_st (I := eI) (er_goto (off := 4) (tg := 124) (x_dk dn_372_0_2_ok 23 rfl) (by decide)) nx_goto))
  (e_Lok (ps_iconst_1 (x_dk dn_372_0_2_ok 24 rfl)))))
  (e_Tok2
  (e_Tok2
  (e_Lok (sm_iadd (x_dk dn_372_0_3_ok 0 rfl)))
  (e_Lok (lk_12_678 ho_372 (x_dk dn_372_0_3_ok 1 rfl))))
  (e_Tok2
  (e_Lok (ps_bipush_m2 (x_dk dn_372_0_3_ok 2 rfl)))
  (e_Lok (e_rt (I := eI) (k := 1) ⟨(x_dk dn_372_0_3_ok 3 rfl), rfl⟩)))))
  (e_Tok2
  (e_Tok2
  (e_Tok2
  (e_Lok (ld_aload_n_0 (x_dk dn_372_0_3_ok 4 rfl)))
  (e_Lok (ps_iconst_1 (x_dk dn_372_0_3_ok 5 rfl))))
  (e_Tok2
  (e_Lok (lk_12_669p ho_372 (x_dk dn_372_0_3_ok 6 rfl)))
  (e_Lok (ld_iload_n_1 (x_dk dn_372_0_3_ok 7 rfl)))))
  (e_Tok2
  (e_Tok2
  (e_Lok (ps_iconst_1 (x_dk dn_372_0_3_ok 8 rfl)))
  (e_Lok (e_st (I := eI) (er_icmpne (off := 73) (tg := 211) (x_dk dn_372_0_3_ok 9 rfl) (by decide)) nx_if2)))
  (e_Tok2
  (e_Lok (ld_aload_n_0 (x_dk dn_372_0_3_ok 10 rfl)))
  (e_Tok2
  (e_Lok (lk_12_8g ho_372 (x_dk dn_372_0_3_ok 11 rfl)))
  (e_Lok (ld_aload_n_0 (x_dk dn_372_0_3_ok 12 rfl))))))))
  (e_Tok2
  (e_Tok2
  (e_Tok2
  (e_Tok2
  (e_Lok (lk_12_651g ho_372 (x_dk dn_372_0_3_ok 13 rfl)))
  (e_Lok (ps_bipush_7 (x_dk dn_372_0_3_ok 14 rfl))))
  (e_Tok2
  (e_Lok (sm_iastore (x_dk dn_372_0_3_ok 15 rfl)))
  (e_Lok (ld_aload_n_0 (x_dk dn_372_0_3_ok 16 rfl)))))
  (e_Tok2
  (e_Tok2
  (e_Lok (lk_12_8g ho_372 (x_dk dn_372_0_3_ok 17 rfl)))
  (e_Lok (ld_aload_n_0 (x_dk dn_372_0_3_ok 18 rfl))))
  (e_Tok2
  (e_Lok (lk_12_651g ho_372 (x_dk dn_372_0_3_ok 19 rfl)))
  (e_Tok2
  (e_Lok (ps_iconst_2 (x_dk dn_372_0_3_ok 20 rfl)))
  (e_Lok (sm_iadd (x_dk dn_372_0_3_ok 21 rfl)))))))
  (e_Tok2
  (e_Tok2
  (e_Tok2
  (e_Lok (ld_iload_n_2 (x_dk dn_372_0_3_ok 22 rfl)))
  (e_Lok (sm_iastore (x_dk dn_372_0_3_ok 23 rfl))))
  (e_Tok2
  (e_Lok (ld_aload_n_0 (x_dk dn_372_0_3_ok 24 rfl)))
  (e_Lok (lk_12_8g ho_372 (x_dk dn_372_1_0_ok 0 rfl)))))
  (e_Tok2
  (e_Tok2
  (e_Lok (ld_aload_n_0 (x_dk dn_372_1_0_ok 1 rfl)))
  (e_Lok (lk_12_663g ho_372 (x_dk dn_372_1_0_ok 2 rfl))))
  (e_Tok2
  (e_Lok (lk_12_294 ho_372 (x_dk dn_372_1_0_ok 3 rfl)))
  (e_Tok2
  (e_Lok (ps_iconst_2 (x_dk dn_372_1_0_ok 4 rfl)))
  (e_Lok (sm_iadd (x_dk dn_372_1_0_ok 5 rfl)))))))))
def te_372_106 : Nat → eE := (e_T 208 (e_T 189 (e_T 182 (e_T 178 (e_T 177 (e_L 177 (0, ei_load 0 2 178, 0, 0)) (e_L 178 (0, ei_getf eft elay 12 96 181, 0, 0))) (e_T 181 (e_L 181 (0, ei_ast elay false 182, 0, 0)) (e_L 182 (0, ei_load 0 2 183, 0, 0)))) (e_T 184 (e_T 183 (e_L 183 (0, ei_push (0, 5) 184, 0, 0)) (e_L 184 (0, ei_load 0 2 185, 0, 0))) (e_T 185 (e_L 185 (0, ei_getf eft elay 12 96 188, 0, 0)) (e_T 188 (e_L 188 (0, ei_load 2 0 189, 0, 0)) (e_L 189 (2, e_nof, 319, 4)))))) (e_T 197 (e_T 193 (e_T 192 (e_L 192 (0, ei_load 0 2 193, 0, 0)) (e_L 193 (0, ei_load 0 2 194, 0, 0))) (e_T 194 (e_L 194 (0, ei_getf eft elay 12 96 197, 0, 0)) (e_L 197 (2, e_nof, 361, 2)))) (e_T 201 (e_T 200 (e_L 200 (0, ei_load 0 2 201, 0, 0)) (e_L 201 (0, ei_load 0 2 202, 0, 0))) (e_T 202 (e_L 202 (0, ei_getf eft elay 12 98 205, 0, 0)) (e_T 205 (e_L 205 (2, e_nof, 384, 2)) (e_L 208 (0, ei_goto 240, 0, 0))))))) (e_T 224 (e_T 216 (e_T 212 (e_T 211 (e_L 211 (0, ei_load 0 2 212, 0, 0)) (e_L 212 (0, ei_getf eft elay 12 0 215, 0, 0))) (e_T 215 (e_L 215 (0, ei_load 0 2 216, 0, 0)) (e_L 216 (0, ei_getf eft elay 12 97 219, 0, 0)))) (e_T 221 (e_T 219 (e_L 219 (0, ei_push (0, 6) 221, 0, 0)) (e_L 221 (0, ei_ast elay false 222, 0, 0))) (e_T 222 (e_L 222 (0, ei_load 0 2 223, 0, 0)) (e_T 223 (e_L 223 (0, ei_push (0, 4) 224, 0, 0)) (e_L 224 (0, ei_load 0 2 225, 0, 0)))))) (e_T 232 (e_T 228 (e_T 225 (e_L 225 (0, ei_getf eft elay 12 96 228, 0, 0)) (e_L 228 (0, ei_push (0, 0) 229, 0, 0))) (e_T 229 (e_L 229 (2, e_nof, 319, 4)) (e_L 232 (0, ei_load 0 2 233, 0, 0)))) (e_T 234 (e_T 233 (e_L 233 (0, ei_load 0 2 234, 0, 0)) (e_L 234 (0, ei_getf eft elay 12 96 237, 0, 0))) (e_T 237 (e_L 237 (2, e_nof, 361, 2)) (e_T 240 (e_L 240 (0, ei_push (0, (-2)) 242, 0, 0)) (e_L 242 (1, e_nof, 1, 0))))))))
set_option maxRecDepth 20000 in
set_option maxHeartbeats 4000000 in
theorem te_372_106_ok : ∀ pc, e_EOq eft cls elay eI n_372 pc (te_372_106 pc) :=
  (e_Tok2
  (e_Tok2
  (e_Tok2
  (e_Tok2
  (e_Tok2
  (e_Lok (ld_aload_n_0 (x_dk dn_372_1_0_ok 6 rfl)))
  (e_Lok (lk_12_660g ho_372 (x_dk dn_372_1_0_ok 7 rfl))))
  (e_Tok2
  (e_Lok (sm_iastore (x_dk dn_372_1_0_ok 8 rfl)))
  (e_Lok (ld_aload_n_0 (x_dk dn_372_1_0_ok 9 rfl)))))
  (e_Tok2
  (e_Tok2
  (e_Lok (ps_iconst_5 (x_dk dn_372_1_0_ok 10 rfl)))
  (e_Lok (ld_aload_n_0 (x_dk dn_372_1_0_ok 11 rfl))))
  (e_Tok2
  (e_Lok (lk_12_660g ho_372 (x_dk dn_372_1_0_ok 12 rfl)))
  (e_Tok2
  (e_Lok (ld_iload_n_2 (x_dk dn_372_1_0_ok 13 rfl)))
  (e_Lok (lk_12_693 ho_372 (x_dk dn_372_1_0_ok 14 rfl)))))))
  (e_Tok2
  (e_Tok2
  (e_Tok2
  (e_Lok (ld_aload_n_0 (x_dk dn_372_1_0_ok 15 rfl)))
  (e_Lok (ld_aload_n_0 (x_dk dn_372_1_0_ok 16 rfl))))
  (e_Tok2
  (e_Lok (lk_12_660g ho_372 (x_dk dn_372_1_0_ok 17 rfl)))
  (e_Lok (lk_12_696 ho_372 (x_dk dn_372_1_0_ok 18 rfl)))))
  (e_Tok2
  (e_Tok2
  (e_Lok (ld_aload_n_0 (x_dk dn_372_1_0_ok 19 rfl)))
  (e_Lok (ld_aload_n_0 (x_dk dn_372_1_0_ok 20 rfl))))
  (e_Tok2
  (e_Lok (lk_12_663g ho_372 (x_dk dn_372_1_0_ok 21 rfl)))
  (e_Tok2
  (e_Lok (lk_12_699 ho_372 (x_dk dn_372_1_0_ok 22 rfl)))
  (e_Lok (e_st (I := eI) (er_goto (off := 32) (tg := 240) (x_dk dn_372_1_0_ok 23 rfl) (by decide)) nx_goto)))))))
  (e_Tok2
  (e_Tok2
  (e_Tok2
  (e_Tok2
  (e_Lok (ld_aload_n_0 (x_dk dn_372_1_0_ok 24 rfl)))
  (e_Lok (lk_12_8g ho_372 (x_dk dn_372_1_1_ok 0 rfl))))
  (e_Tok2
  (e_Lok (ld_aload_n_0 (x_dk dn_372_1_1_ok 1 rfl)))
  (e_Lok (lk_12_651g ho_372 (x_dk dn_372_1_1_ok 2 rfl)))))
  (e_Tok2
  (e_Tok2
  (e_Lok (ps_bipush_6 (x_dk dn_372_1_1_ok 3 rfl)))
  (e_Lok (sm_iastore (x_dk dn_372_1_1_ok 4 rfl))))
  (e_Tok2
  (e_Lok (ld_aload_n_0 (x_dk dn_372_1_1_ok 5 rfl)))
  (e_Tok2
  (e_Lok (ps_iconst_4 (x_dk dn_372_1_1_ok 6 rfl)))
  (e_Lok (ld_aload_n_0 (x_dk dn_372_1_1_ok 7 rfl)))))))
  (e_Tok2
  (e_Tok2
  (e_Tok2
  (e_Lok (lk_12_660g ho_372 (x_dk dn_372_1_1_ok 8 rfl)))
  (e_Lok (ps_iconst_0 (x_dk dn_372_1_1_ok 9 rfl))))
  (e_Tok2
  (e_Lok (lk_12_693 ho_372 (x_dk dn_372_1_1_ok 10 rfl)))
  (e_Lok (ld_aload_n_0 (x_dk dn_372_1_1_ok 11 rfl)))))
  (e_Tok2
  (e_Tok2
  (e_Lok (ld_aload_n_0 (x_dk dn_372_1_1_ok 12 rfl)))
  (e_Lok (lk_12_660g ho_372 (x_dk dn_372_1_1_ok 13 rfl))))
  (e_Tok2
  (e_Lok (lk_12_696 ho_372 (x_dk dn_372_1_1_ok 14 rfl)))
  (e_Tok2
  (e_Lok (ps_bipush_m2 (x_dk dn_372_1_1_ok 15 rfl)))
  (e_Lok (e_rt (I := eI) (k := 1) ⟨(x_dk dn_372_1_1_ok 16 rfl), rfl⟩))))))))
def te_372 : Nat → eE := (e_T 115 (e_T 54 te_372_0 te_372_35) (e_T 176 te_372_71 te_372_106))
theorem te_372_ok : ∀ pc, e_EOq eft cls elay eI n_372 pc (te_372 pc) := (e_Tok2 ((e_Tok2 (te_372_0_ok) (te_372_35_ok))) ((e_Tok2 (te_372_71_ok) (te_372_106_ok))))
end
end
-- part 41bc
section
noncomputable section
theorem ho_373 : (xm_y n_373).cls = "RobotCellHouseModel" := rfl
def dn_373_0_0 : List (Nat × Instr × Nat) := [(0, .aload_n 0, 1), (1, .getfield 8, 3), (4, .aload_n 0, 1), (5, .invokevirtual 657, 3), (8, .iaload, 1), (9, .istore_n 1, 1), (10, .aload_n 0, 1), (11, .getfield 171, 3), (14, .sipush 10000, 3), (17, .aload_n 0, 1), (18, .getfield 663, 3), (21, .imul, 1), (22, .iload_n 1, 1), (23, .iadd, 1), (24, .iaload, 1), (25, .istore_n 2, 1), (26, .aload_n 0, 1), (27, .getfield 174, 3), (30, .sipush 10000, 3), (33, .aload_n 0, 1), (34, .getfield 663, 3), (37, .imul, 1), (38, .iload_n 1, 1), (39, .iadd, 1), (40, .iaload, 1)]
set_option maxRecDepth 20000 in
theorem dn_373_0_0_ok : dn_373_0_0.all (fun q => decide (decode (xm_b n_373) q.1 = .ok (q.2.1, q.2.2))) = true := xa_g_ok (by decide +kernel)
def dn_373_0_1 : List (Nat × Instr × Nat) := [(41, .istore_n 3, 1), (42, .iload_n 2, 1), (43, .bipush 30, 2), (45, .if_icmp .ne 10, 3), (48, .aload_n 0, 1), (49, .invokevirtual 702, 3), (52, .goto 26, 3), (55, .iload_n 2, 1), (56, .bipush 30, 2), (58, .if_icmp .ge 13, 3), (61, .aload_n 0, 1), (62, .iload_n 2, 1), (63, .iload_n 3, 1), (64, .iload_n 1, 1), (65, .invokevirtual 705, 3), (68, .goto 10, 3), (71, .aload_n 0, 1), (72, .iload_n 2, 1), (73, .iload_n 3, 1), (74, .iload_n 1, 1), (75, .invokevirtual 708, 3), (78, .return_, 1)]
set_option maxRecDepth 20000 in
theorem dn_373_0_1_ok : dn_373_0_1.all (fun q => decide (decode (xm_b n_373) q.1 = .ok (q.2.1, q.2.2))) = true := xa_g_ok (by decide +kernel)
def te_373_0 : Nat → eE := (e_T 18 (e_T 8 (e_T 1 (e_T 0 (e_L 0 (0, ei_load 0 2 1, 0, 0)) (e_L 1 (0, ei_getf eft elay 12 0 4, 0, 0))) (e_T 4 (e_L 4 (0, ei_load 0 2 5, 0, 0)) (e_T 5 (e_L 5 (2, e_nof, 362, 1)) (e_L 8 (0, ei_ald elay false 9, 0, 0))))) (e_T 11 (e_T 9 (e_L 9 (0, ei_stor 1 0 10, 0, 0)) (e_T 10 (e_L 10 (0, ei_load 0 2 11, 0, 0)) (e_L 11 (0, ei_getf eft elay 12 65 14, 0, 0)))) (e_T 14 (e_L 14 (0, ei_push (0, 10000) 17, 0, 0)) (e_T 17 (e_L 17 (0, ei_load 0 2 18, 0, 0)) (e_L 18 (0, ei_getf eft elay 12 98 21, 0, 0)))))) (e_T 26 (e_T 23 (e_T 21 (e_L 21 (0, ei_bin eF_mul 22, 0, 0)) (e_T 22 (e_L 22 (0, ei_load 1 0 23, 0, 0)) (e_L 23 (0, ei_bin eF_add 24, 0, 0)))) (e_T 24 (e_L 24 (0, ei_ald elay false 25, 0, 0)) (e_T 25 (e_L 25 (0, ei_stor 2 0 26, 0, 0)) (e_L 26 (0, ei_load 0 2 27, 0, 0))))) (e_T 33 (e_T 27 (e_L 27 (0, ei_getf eft elay 12 66 30, 0, 0)) (e_T 30 (e_L 30 (0, ei_push (0, 10000) 33, 0, 0)) (e_L 33 (0, ei_load 0 2 34, 0, 0)))) (e_T 34 (e_L 34 (0, ei_getf eft elay 12 98 37, 0, 0)) (e_T 37 (e_L 37 (0, ei_bin eF_mul 38, 0, 0)) (e_L 38 (0, ei_load 1 0 39, 0, 0)))))))
set_option maxRecDepth 20000 in
set_option maxHeartbeats 4000000 in
theorem te_373_0_ok : ∀ pc, e_EOq eft cls elay eI n_373 pc (te_373_0 pc) :=
  (e_Tok2
  (e_Tok2
  (e_Tok2
  (e_Tok2
  (e_Lok (ld_aload_n_0 (x_dk dn_373_0_0_ok 0 rfl)))
  (e_Lok (lk_12_8g ho_373 (x_dk dn_373_0_0_ok 1 rfl))))
  (e_Tok2
  (e_Lok (ld_aload_n_0 (x_dk dn_373_0_0_ok 2 rfl)))
  (e_Tok2
  (e_Lok (lk_12_657 ho_373 (x_dk dn_373_0_0_ok 3 rfl)))
  (e_Lok (sm_iaload (x_dk dn_373_0_0_ok 4 rfl))))))
  (e_Tok2
  (e_Tok2
  (e_Lok (e_st (I := eI) (er_istore_n (i := 1) (x_dk dn_373_0_0_ok 5 rfl) (by decide +kernel)) nx_stor))
  (e_Tok2
  (e_Lok (ld_aload_n_0 (x_dk dn_373_0_0_ok 6 rfl)))
  (e_Lok (lk_12_171g ho_373 (x_dk dn_373_0_0_ok 7 rfl)))))
  (e_Tok2
  (e_Lok (ps_sipush_10000 (x_dk dn_373_0_0_ok 8 rfl)))
  (e_Tok2
  (e_Lok (ld_aload_n_0 (x_dk dn_373_0_0_ok 9 rfl)))
  (e_Lok (lk_12_663g ho_373 (x_dk dn_373_0_0_ok 10 rfl)))))))
  (e_Tok2
  (e_Tok2
  (e_Tok2
  (e_Lok (sm_imul (x_dk dn_373_0_0_ok 11 rfl)))
  (e_Tok2
  (e_Lok (ld_iload_n_1 (x_dk dn_373_0_0_ok 12 rfl)))
  (e_Lok (sm_iadd (x_dk dn_373_0_0_ok 13 rfl)))))
  (e_Tok2
  (e_Lok (sm_iaload (x_dk dn_373_0_0_ok 14 rfl)))
  (e_Tok2
  (e_Lok (e_st (I := eI) (er_istore_n (i := 2) (x_dk dn_373_0_0_ok 15 rfl) (by decide +kernel)) nx_stor))
  (e_Lok (ld_aload_n_0 (x_dk dn_373_0_0_ok 16 rfl))))))
  (e_Tok2
  (e_Tok2
  (e_Lok (lk_12_174g ho_373 (x_dk dn_373_0_0_ok 17 rfl)))
  (e_Tok2
  (e_Lok (ps_sipush_10000 (x_dk dn_373_0_0_ok 18 rfl)))
  (e_Lok (ld_aload_n_0 (x_dk dn_373_0_0_ok 19 rfl)))))
  (e_Tok2
  (e_Lok (lk_12_663g ho_373 (x_dk dn_373_0_0_ok 20 rfl)))
  (e_Tok2
  (e_Lok (sm_imul (x_dk dn_373_0_0_ok 21 rfl)))
  (e_Lok (ld_iload_n_1 (x_dk dn_373_0_0_ok 22 rfl))))))))
def te_373_23 : Nat → eE := (e_T 58 (e_T 45 (e_T 41 (e_T 39 (e_L 39 (0, ei_bin eF_add 40, 0, 0)) (e_T 40 (e_L 40 (0, ei_ald elay false 41, 0, 0)) (e_L 41 (0, ei_stor 3 0 42, 0, 0)))) (e_T 42 (e_L 42 (0, ei_load 2 0 43, 0, 0)) (e_T 43 (e_L 43 (0, ei_push (0, 30) 45, 0, 0)) (e_L 45 (0, ei_if2 1 55 48, 0, 0))))) (e_T 52 (e_T 48 (e_L 48 (0, ei_load 0 2 49, 0, 0)) (e_T 49 (e_L 49 (2, e_nof, 368, 1)) (e_L 52 (0, ei_goto 78, 0, 0)))) (e_T 55 (e_L 55 (0, ei_load 2 0 56, 0, 0)) (e_T 56 (e_L 56 (0, ei_push (0, 30) 58, 0, 0)) (e_L 58 (0, ei_if2 3 71 61, 0, 0)))))) (e_T 68 (e_T 63 (e_T 61 (e_L 61 (0, ei_load 0 2 62, 0, 0)) (e_T 62 (e_L 62 (0, ei_load 2 0 63, 0, 0)) (e_L 63 (0, ei_load 3 0 64, 0, 0)))) (e_T 64 (e_L 64 (0, ei_load 1 0 65, 0, 0)) (e_T 65 (e_L 65 (2, e_nof, 374, 4)) (e_L 68 (0, ei_goto 78, 0, 0))))) (e_T 73 (e_T 71 (e_L 71 (0, ei_load 0 2 72, 0, 0)) (e_T 72 (e_L 72 (0, ei_load 2 0 73, 0, 0)) (e_L 73 (0, ei_load 3 0 74, 0, 0)))) (e_T 74 (e_L 74 (0, ei_load 1 0 75, 0, 0)) (e_T 75 (e_L 75 (2, e_nof, 376, 4)) (e_L 78 (1, e_nof, 0, 0)))))))
set_option maxRecDepth 20000 in
set_option maxHeartbeats 4000000 in
theorem te_373_23_ok : ∀ pc, e_EOq eft cls elay eI n_373 pc (te_373_23 pc) :=
  (e_Tok2
  (e_Tok2
  (e_Tok2
  (e_Tok2
  (e_Lok (sm_iadd (x_dk dn_373_0_0_ok 23 rfl)))
  (e_Tok2
  (e_Lok (sm_iaload (x_dk dn_373_0_0_ok 24 rfl)))
  (e_Lok (e_st (I := eI) (er_istore_n (i := 3) (x_dk dn_373_0_1_ok 0 rfl) (by decide +kernel)) nx_stor))))
  (e_Tok2
  (e_Lok (ld_iload_n_2 (x_dk dn_373_0_1_ok 1 rfl)))
  (e_Tok2
  (e_Lok (ps_bipush_30 (x_dk dn_373_0_1_ok 2 rfl)))
  (e_Lok (e_st (I := eI) (er_icmpne (off := 10) (tg := 55) (x_dk dn_373_0_1_ok 3 rfl) (by decide)) nx_if2)))))
  (e_Tok2
  (e_Tok2
  (e_Lok (ld_aload_n_0 (x_dk dn_373_0_1_ok 4 rfl)))
  (e_Tok2
  (e_Lok (lk_12_702 ho_373 (x_dk dn_373_0_1_ok 5 rfl)))
  (e_Lok (e_st (I := eI) (er_goto (off := 26) (tg := 78) (x_dk dn_373_0_1_ok 6 rfl) (by decide)) nx_goto))))
  (e_Tok2
  (e_Lok (ld_iload_n_2 (x_dk dn_373_0_1_ok 7 rfl)))
  (e_Tok2
  (e_Lok (ps_bipush_30 (x_dk dn_373_0_1_ok 8 rfl)))
  (e_Lok (e_st (I := eI) (er_icmpge (off := 13) (tg := 71) (x_dk dn_373_0_1_ok 9 rfl) (by decide)) nx_if2))))))
  (e_Tok2
  (e_Tok2
  (e_Tok2
  (e_Lok (ld_aload_n_0 (x_dk dn_373_0_1_ok 10 rfl)))
  (e_Tok2
  (e_Lok (ld_iload_n_2 (x_dk dn_373_0_1_ok 11 rfl)))
  (e_Lok (ld_iload_n_3 (x_dk dn_373_0_1_ok 12 rfl)))))
  (e_Tok2
  (e_Lok (ld_iload_n_1 (x_dk dn_373_0_1_ok 13 rfl)))
  (e_Tok2
  (e_Lok (lk_12_705 ho_373 (x_dk dn_373_0_1_ok 14 rfl)))
  (e_Lok (e_st (I := eI) (er_goto (off := 10) (tg := 78) (x_dk dn_373_0_1_ok 15 rfl) (by decide)) nx_goto)))))
  (e_Tok2
  (e_Tok2
  (e_Lok (ld_aload_n_0 (x_dk dn_373_0_1_ok 16 rfl)))
  (e_Tok2
  (e_Lok (ld_iload_n_2 (x_dk dn_373_0_1_ok 17 rfl)))
  (e_Lok (ld_iload_n_3 (x_dk dn_373_0_1_ok 18 rfl)))))
  (e_Tok2
  (e_Lok (ld_iload_n_1 (x_dk dn_373_0_1_ok 19 rfl)))
  (e_Tok2
  (e_Lok (lk_12_708 ho_373 (x_dk dn_373_0_1_ok 20 rfl)))
  (e_Lok (e_rt (I := eI) (k := 0) ⟨(x_dk dn_373_0_1_ok 21 rfl), rfl⟩)))))))
def te_373 : Nat → eE := (e_T 38 te_373_0 te_373_23)
theorem te_373_ok : ∀ pc, e_EOq eft cls elay eI n_373 pc (te_373 pc) := (e_Tok2 (te_373_0_ok) (te_373_23_ok))
theorem ho_374 : (xm_y n_374).cls = "RobotCellHouseModel" := rfl
def dn_374_0_0 : List (Nat × Instr × Nat) := [(0, .iload_n 3, 1), (1, .iconst 1, 1), (2, .iadd, 1), (3, .istore 4, 2), (5, .iload_n 1, 1), (6, .tableswitch 404 1 24 #[110, 118, 143, 181, 231, 244, 262, 275, 304, 404, 404, 404, 404, 404, 404, 404, 404, 404, 404, 404, 316, 354, 354, 335], 110), (116, .aload_n 0, 1), (117, .iload_n 2, 1), (118, .invokevirtual 711, 3), (121, .goto 336, 3), (124, .aload_n 0, 1), (125, .aload_n 0, 1), (126, .getfield 8, 3), (129, .sipush 20932, 3), (132, .bipush 32, 2), (134, .aload_n 0, 1), (135, .getfield 663, 3), (138, .imul, 1), (139, .iadd, 1), (140, .iload_n 2, 1), (141, .iadd, 1), (142, .iaload, 1), (143, .invokevirtual 711, 3), (146, .goto 311, 3), (149, .aload_n 0, 1)]
set_option maxRecDepth 20000 in
theorem dn_374_0_0_ok : dn_374_0_0.all (fun q => decide (decode (xm_b n_374) q.1 = .ok (q.2.1, q.2.2))) = true := xa_g_ok (by decide +kernel)
def dn_374_0_1 : List (Nat × Instr × Nat) := [(150, .invokevirtual 714, 3), (153, .istore 5, 2), (155, .iload 5, 2), (157, .i2l, 1), (158, .lconst 0, 1), (159, .ldc2_w 352, 3), (162, .invokestatic 301, 3), (165, .ifCond .ne 9, 3), (168, .aload_n 0, 1), (169, .iconst 2, 1), (170, .invokevirtual 672, 3), (173, .return_, 1), (174, .aload_n 0, 1), (175, .aload_n 0, 1), (176, .iload 5, 2), (178, .invokevirtual 464, 3), (181, .invokevirtual 711, 3), (184, .goto 273, 3), (187, .aload_n 0, 1), (188, .invokevirtual 714, 3), (191, .istore 6, 2), (193, .aload_n 0, 1), (194, .aload_n 0, 1), (195, .getfield 663, 3), (198, .iload 6, 2)]
set_option maxRecDepth 20000 in
theorem dn_374_0_1_ok : dn_374_0_1.all (fun q => decide (decode (xm_b n_374) q.1 = .ok (q.2.1, q.2.2))) = true := xa_g_ok (by decide +kernel)
def dn_374_0_2 : List (Nat × Instr × Nat) := [(200, .invokevirtual 333, 3), (203, .ifCond .ne 9, 3), (206, .aload_n 0, 1), (207, .iconst 2, 1), (208, .invokevirtual 672, 3), (211, .return_, 1), (212, .aload_n 0, 1), (213, .aload_n 0, 1), (214, .getfield 8, 3), (217, .aload_n 0, 1), (218, .getfield 663, 3), (221, .invokestatic 294, 3), (224, .bipush 16, 2), (226, .iadd, 1), (227, .iload 6, 2), (229, .iadd, 1), (230, .iaload, 1), (231, .invokevirtual 711, 3), (234, .goto 223, 3), (237, .aload_n 0, 1), (238, .aload_n 0, 1), (239, .getfield 8, 3), (242, .iconst 0, 1), (243, .iaload, 1), (244, .invokevirtual 711, 3)]
set_option maxRecDepth 20000 in
theorem dn_374_0_2_ok : dn_374_0_2.all (fun q => decide (decode (xm_b n_374) q.1 = .ok (q.2.1, q.2.2))) = true := xa_g_ok (by decide +kernel)
def dn_374_0_3 : List (Nat × Instr × Nat) := [(247, .goto 210, 3), (250, .aload_n 0, 1), (251, .aload_n 0, 1), (252, .getfield 8, 3), (255, .aload_n 0, 1), (256, .getfield 651, 3), (259, .iconst 3, 1), (260, .iadd, 1), (261, .iaload, 1), (262, .invokevirtual 711, 3), (265, .goto 192, 3), (268, .aload_n 0, 1), (269, .aload_n 0, 1), (270, .getfield 8, 3), (273, .iconst 1, 1), (274, .iaload, 1), (275, .invokevirtual 711, 3), (278, .goto 179, 3), (281, .aload_n 0, 1), (282, .aload_n 0, 1), (283, .getfield 8, 3), (286, .aload_n 0, 1), (287, .getfield 663, 3), (290, .invokestatic 294, 3), (293, .iconst 1, 1)]
set_option maxRecDepth 20000 in
theorem dn_374_0_3_ok : dn_374_0_3.all (fun q => decide (decode (xm_b n_374) q.1 = .ok (q.2.1, q.2.2))) = true := xa_g_ok (by decide +kernel)
def dn_374_1_0 : List (Nat × Instr × Nat) := [(294, .iadd, 1), (295, .iaload, 1), (296, .ifCond .lt 7, 3), (299, .iconst 1, 1), (300, .goto 4, 3), (303, .iconst 0, 1), (304, .invokevirtual 711, 3), (307, .goto 150, 3), (310, .aload_n 0, 1), (311, .aload_n 0, 1), (312, .invokevirtual 714, 3), (315, .ineg, 1), (316, .invokevirtual 711, 3), (319, .goto 138, 3), (322, .aload_n 0, 1), (323, .aload_n 0, 1), (324, .invokevirtual 714, 3), (327, .ifCond .ne 7, 3), (330, .iconst 1, 1), (331, .goto 4, 3), (334, .iconst 0, 1), (335, .invokevirtual 711, 3), (338, .goto 119, 3), (341, .aload_n 0, 1), (342, .aload_n 0, 1)]
set_option maxRecDepth 20000 in
theorem dn_374_1_0_ok : dn_374_1_0.all (fun q => decide (decode (xm_b n_374) q.1 = .ok (q.2.1, q.2.2))) = true := xa_g_ok (by decide +kernel)
def dn_374_1_1 : List (Nat × Instr × Nat) := [(343, .invokevirtual 714, 3), (346, .ifCond .ne 7, 3), (349, .iconst 0, 1), (350, .goto 4, 3), (353, .iconst 1, 1), (354, .invokevirtual 711, 3), (357, .goto 100, 3), (360, .aload_n 0, 1), (361, .invokevirtual 714, 3), (364, .ifCond .eq 7, 3), (367, .iconst 1, 1), (368, .goto 4, 3), (371, .iconst 0, 1), (372, .istore 7, 2), (374, .iload 7, 2), (376, .iload_n 1, 1), (377, .bipush 22, 2), (379, .if_icmp .ne 7, 3), (382, .iconst 1, 1), (383, .goto 4, 3), (386, .iconst 0, 1), (387, .if_icmp .ne 70, 3), (390, .aload_n 0, 1), (391, .iload 7, 2), (393, .ifCond .eq 7, 3)]
set_option maxRecDepth 20000 in
theorem dn_374_1_1_ok : dn_374_1_1.all (fun q => decide (decode (xm_b n_374) q.1 = .ok (q.2.1, q.2.2))) = true := xa_g_ok (by decide +kernel)
def dn_374_1_2 : List (Nat × Instr × Nat) := [(396, .iconst 1, 1), (397, .goto 4, 3), (400, .iconst 0, 1), (401, .invokevirtual 711, 3), (404, .iload_n 2, 1), (405, .istore 4, 2), (407, .goto 50, 3), (410, .aload_n 0, 1), (411, .invokevirtual 714, 3), (414, .istore 8, 2), (416, .aload_n 0, 1), (417, .invokevirtual 714, 3), (420, .istore 9, 2), (422, .iload 8, 2), (424, .ifCond .ne 21, 3), (427, .iload_n 1, 1), (428, .bipush 13, 2), (430, .if_icmp .eq 9, 3), (433, .iload_n 1, 1), (434, .bipush 14, 2), (436, .if_icmp .ne 9, 3), (439, .aload_n 0, 1), (440, .iconst 1, 1), (441, .invokevirtual 672, 3), (444, .return_, 1)]
set_option maxRecDepth 20000 in
theorem dn_374_1_2_ok : dn_374_1_2.all (fun q => decide (decode (xm_b n_374) q.1 = .ok (q.2.1, q.2.2))) = true := xa_g_ok (by decide +kernel)
def dn_374_1_3 : List (Nat × Instr × Nat) := [(445, .aload_n 0, 1), (446, .iload_n 1, 1), (447, .iload 9, 2), (449, .iload 8, 2), (451, .invokestatic 717, 3), (454, .invokevirtual 711, 3), (457, .aload_n 0, 1), (458, .iload 4, 2), (460, .invokevirtual 678, 3), (463, .return_, 1)]
set_option maxRecDepth 20000 in
theorem dn_374_1_3_ok : dn_374_1_3.all (fun q => decide (decode (xm_b n_374) q.1 = .ok (q.2.1, q.2.2))) = true := xa_g_ok (by decide +kernel)
def te_374_0 : Nat → eE := (e_T 124 (e_T 5 (e_T 1 (e_T 0 (e_L 0 (0, ei_load 3 0 1, 0, 0)) (e_L 1 (0, ei_push (0, 1) 2, 0, 0))) (e_T 2 (e_L 2 (0, ei_bin eF_add 3, 0, 0)) (e_T 3 (e_L 3 (0, ei_stor 4 0 5, 0, 0)) (e_L 5 (0, ei_load 1 0 6, 0, 0))))) (e_T 117 (e_T 6 (e_L 6 (0, ei_sw [((-2147483648), 0, 410), (1, 1, 116), (2, 2, 124), (3, 3, 149), (4, 4, 187), (5, 5, 237), (6, 6, 250), (7, 7, 268), (8, 8, 281), (9, 9, 310), (10, 10, 410), (11, 11, 410), (12, 12, 410), (13, 13, 410), (14, 14, 410), (15, 15, 410), (16, 16, 410), (17, 17, 410), (18, 18, 410), (19, 19, 410), (20, 20, 410), (21, 21, 322), (22, 22, 360), (23, 23, 360), (24, 24, 341), (25, 2147483647, 410)], 0, 0)) (e_T 116 (e_L 116 (0, ei_load 0 2 117, 0, 0)) (e_L 117 (0, ei_load 2 0 118, 0, 0)))) (e_T 118 (e_L 118 (2, e_nof, 363, 2)) (e_T 121 (e_L 121 (0, ei_goto 457, 0, 0)) (e_L 124 (0, ei_load 0 2 125, 0, 0)))))) (e_T 135 (e_T 129 (e_T 125 (e_L 125 (0, ei_load 0 2 126, 0, 0)) (e_T 126 (e_L 126 (0, ei_getf eft elay 12 0 129, 0, 0)) (e_L 129 (0, ei_push (0, 20932) 132, 0, 0)))) (e_T 132 (e_L 132 (0, ei_push (0, 32) 134, 0, 0)) (e_T 134 (e_L 134 (0, ei_load 0 2 135, 0, 0)) (e_L 135 (0, ei_getf eft elay 12 98 138, 0, 0))))) (e_T 140 (e_T 138 (e_L 138 (0, ei_bin eF_mul 139, 0, 0)) (e_T 139 (e_L 139 (0, ei_bin eF_add 140, 0, 0)) (e_L 140 (0, ei_load 2 0 141, 0, 0)))) (e_T 141 (e_L 141 (0, ei_bin eF_add 142, 0, 0)) (e_T 142 (e_L 142 (0, ei_ald elay false 143, 0, 0)) (e_L 143 (2, e_nof, 363, 2)))))))
set_option maxRecDepth 20000 in
set_option maxHeartbeats 4000000 in
theorem te_374_0_ok : ∀ pc, e_EOq eft cls elay eI n_374 pc (te_374_0 pc) :=
  (e_Tok2
  (e_Tok2
  (e_Tok2
  (e_Tok2
  (e_Lok (ld_iload_n_3 (x_dk dn_374_0_0_ok 0 rfl)))
  (e_Lok (ps_iconst_1 (x_dk dn_374_0_0_ok 1 rfl))))
  (e_Tok2
  (e_Lok (sm_iadd (x_dk dn_374_0_0_ok 2 rfl)))
  (e_Tok2
  (e_Lok (e_st (I := eI) (er_istore (i := 4) (x_dk dn_374_0_0_ok 3 rfl) (by decide +kernel)) nx_stor))
  (e_Lok (ld_iload_n_1 (x_dk dn_374_0_0_ok 4 rfl))))))
  (e_Tok2
  (e_Tok2
  (e_Lok (e_st (I := eI) (er_tsw (dflt := 404) (lo := 1) (hi := 24) (offs := #[110, 118, 143, 181, 231, 244, 262, 275, 304, 404, 404, 404, 404, 404, 404, 404, 404, 404, 404, 404, 316, 354, 354, 335]) (len := 110) (n := 24) (x_dk dn_374_0_0_ok 5 rfl) (by decide) (by decide +kernel)) nx_sw))
  (e_Tok2
  (e_Lok (ld_aload_n_0 (x_dk dn_374_0_0_ok 6 rfl)))
  (e_Lok (ld_iload_n_2 (x_dk dn_374_0_0_ok 7 rfl)))))
  (e_Tok2
  (e_Lok (lk_12_711 ho_374 (x_dk dn_374_0_0_ok 8 rfl)))
  (e_Tok2
  (e_Lok (e_st (I := eI) (er_goto (off := 336) (tg := 457) (x_dk dn_374_0_0_ok 9 rfl) (by decide)) nx_goto))
  (e_Lok (ld_aload_n_0 (x_dk dn_374_0_0_ok 10 rfl)))))))
  (e_Tok2
  (e_Tok2
  (e_Tok2
  (e_Lok (ld_aload_n_0 (x_dk dn_374_0_0_ok 11 rfl)))
  (e_Tok2
  (e_Lok (lk_12_8g ho_374 (x_dk dn_374_0_0_ok 12 rfl)))
  (e_Lok (ps_sipush_20932 (x_dk dn_374_0_0_ok 13 rfl)))))
  (e_Tok2
  (e_Lok (ps_bipush_32 (x_dk dn_374_0_0_ok 14 rfl)))
  (e_Tok2
  (e_Lok (ld_aload_n_0 (x_dk dn_374_0_0_ok 15 rfl)))
  (e_Lok (lk_12_663g ho_374 (x_dk dn_374_0_0_ok 16 rfl))))))
  (e_Tok2
  (e_Tok2
  (e_Lok (sm_imul (x_dk dn_374_0_0_ok 17 rfl)))
  (e_Tok2
  (e_Lok (sm_iadd (x_dk dn_374_0_0_ok 18 rfl)))
  (e_Lok (ld_iload_n_2 (x_dk dn_374_0_0_ok 19 rfl)))))
  (e_Tok2
  (e_Lok (sm_iadd (x_dk dn_374_0_0_ok 20 rfl)))
  (e_Tok2
  (e_Lok (sm_iaload (x_dk dn_374_0_0_ok 21 rfl)))
  (e_Lok (lk_12_711 ho_374 (x_dk dn_374_0_0_ok 22 rfl))))))))
def te_374_23 : Nat → eE := (e_T 168 (e_T 155 (e_T 149 (e_T 146 (e_L 146 (0, ei_goto 457, 0, 0)) (e_L 149 (0, ei_load 0 2 150, 0, 0))) (e_T 150 (e_L 150 (2, e_nof, 364, 1)) (e_T 153 (e_L 153 (0, ei_stor 5 0 155, 0, 0)) (e_L 155 (0, ei_load 5 0 157, 0, 0))))) (e_T 159 (e_T 157 (e_L 157 (0, ei_un (fun x => (4, x)) 158, 0, 0)) (e_T 158 (e_L 158 (0, ei_push (4, 0) 159, 0, 0)) (e_L 159 (0, ei_push (4, 63) 162, 0, 0)))) (e_T 162 (e_L 162 (2, e_nof, 266, 3)) (e_T 165 (e_L 165 (0, ei_if1 1 174 168, 0, 0)) (e_L 168 (0, ei_load 0 2 169, 0, 0)))))) (e_T 176 (e_T 173 (e_T 169 (e_L 169 (0, ei_push (0, 2) 170, 0, 0)) (e_T 170 (e_L 170 (2, e_nof, 369, 2)) (e_L 173 (1, e_nof, 0, 0)))) (e_T 174 (e_L 174 (0, ei_load 0 2 175, 0, 0)) (e_T 175 (e_L 175 (0, ei_load 0 2 176, 0, 0)) (e_L 176 (0, ei_load 5 0 178, 0, 0))))) (e_T 184 (e_T 178 (e_L 178 (2, e_nof, 320, 2)) (e_T 181 (e_L 181 (2, e_nof, 363, 2)) (e_L 184 (0, ei_goto 457, 0, 0)))) (e_T 187 (e_L 187 (0, ei_load 0 2 188, 0, 0)) (e_T 188 (e_L 188 (2, e_nof, 364, 1)) (e_L 191 (0, ei_stor 6 0 193, 0, 0)))))))
set_option maxRecDepth 20000 in
set_option maxHeartbeats 4000000 in
theorem te_374_23_ok : ∀ pc, e_EOq eft cls elay eI n_374 pc (te_374_23 pc) :=
  (e_Tok2
  (e_Tok2
  (e_Tok2
  (e_Tok2
  (e_Lok (e_st (I := eI) (er_goto (off := 311) (tg := 457) (x_dk dn_374_0_0_ok 23 rfl) (by decide)) nx_goto))
  (e_Lok (ld_aload_n_0 (x_dk dn_374_0_0_ok 24 rfl))))
  (e_Tok2
  (e_Lok (lk_12_714 ho_374 (x_dk dn_374_0_1_ok 0 rfl)))
  (e_Tok2
  (e_Lok (e_st (I := eI) (er_istore (i := 5) (x_dk dn_374_0_1_ok 1 rfl) (by decide +kernel)) nx_stor))
  (e_Lok (ld_iload_5 (x_dk dn_374_0_1_ok 2 rfl))))))
  (e_Tok2
  (e_Tok2
  (e_Lok (e_st (I := eI) (er_i2l (x_dk dn_374_0_1_ok 3 rfl)) (nx_un (fun _ => rfl))))
  (e_Tok2
  (e_Lok (ps_lconst_0 (x_dk dn_374_0_1_ok 4 rfl)))
  (e_Lok (e_st (I := eI) (er_ldc2 (ix := 352) (z := 63) (v := 63) (x_dk dn_374_0_1_ok 5 rfl) (in_t11 (List.mem_of_getElem? (i := 81) rfl) rfl) (by decide)) (nx_push (Or.inl rfl))))))
  (e_Tok2
  (e_Lok (lk_12_301 ho_374 (x_dk dn_374_0_1_ok 6 rfl)))
  (e_Tok2
  (e_Lok (e_st (I := eI) (er_ifne (off := 9) (tg := 174) (x_dk dn_374_0_1_ok 7 rfl) (by decide)) nx_if1))
  (e_Lok (ld_aload_n_0 (x_dk dn_374_0_1_ok 8 rfl)))))))
  (e_Tok2
  (e_Tok2
  (e_Tok2
  (e_Lok (ps_iconst_2 (x_dk dn_374_0_1_ok 9 rfl)))
  (e_Tok2
  (e_Lok (lk_12_672 ho_374 (x_dk dn_374_0_1_ok 10 rfl)))
  (e_Lok (e_rt (I := eI) (k := 0) ⟨(x_dk dn_374_0_1_ok 11 rfl), rfl⟩))))
  (e_Tok2
  (e_Lok (ld_aload_n_0 (x_dk dn_374_0_1_ok 12 rfl)))
  (e_Tok2
  (e_Lok (ld_aload_n_0 (x_dk dn_374_0_1_ok 13 rfl)))
  (e_Lok (ld_iload_5 (x_dk dn_374_0_1_ok 14 rfl))))))
  (e_Tok2
  (e_Tok2
  (e_Lok (lk_12_464 ho_374 (x_dk dn_374_0_1_ok 15 rfl)))
  (e_Tok2
  (e_Lok (lk_12_711 ho_374 (x_dk dn_374_0_1_ok 16 rfl)))
  (e_Lok (e_st (I := eI) (er_goto (off := 273) (tg := 457) (x_dk dn_374_0_1_ok 17 rfl) (by decide)) nx_goto))))
  (e_Tok2
  (e_Lok (ld_aload_n_0 (x_dk dn_374_0_1_ok 18 rfl)))
  (e_Tok2
  (e_Lok (lk_12_714 ho_374 (x_dk dn_374_0_1_ok 19 rfl)))
  (e_Lok (e_st (I := eI) (er_istore (i := 6) (x_dk dn_374_0_1_ok 20 rfl) (by decide +kernel)) nx_stor)))))))
def te_374_46 : Nat → eE := (e_T 212 (e_T 200 (e_T 194 (e_T 193 (e_L 193 (0, ei_load 0 2 194, 0, 0)) (e_L 194 (0, ei_load 0 2 195, 0, 0))) (e_T 195 (e_L 195 (0, ei_getf eft elay 12 98 198, 0, 0)) (e_T 198 (e_L 198 (0, ei_load 6 0 200, 0, 0)) (e_L 200 (2, e_nof, 271, 3))))) (e_T 207 (e_T 203 (e_L 203 (0, ei_if1 1 212 206, 0, 0)) (e_T 206 (e_L 206 (0, ei_load 0 2 207, 0, 0)) (e_L 207 (0, ei_push (0, 2) 208, 0, 0)))) (e_T 208 (e_L 208 (2, e_nof, 369, 2)) (e_T 211 (e_L 211 (1, e_nof, 0, 0)) (e_L 212 (0, ei_load 0 2 213, 0, 0)))))) (e_T 224 (e_T 217 (e_T 213 (e_L 213 (0, ei_load 0 2 214, 0, 0)) (e_T 214 (e_L 214 (0, ei_getf eft elay 12 0 217, 0, 0)) (e_L 217 (0, ei_load 0 2 218, 0, 0)))) (e_T 218 (e_L 218 (0, ei_getf eft elay 12 98 221, 0, 0)) (e_T 221 (e_L 221 (2, e_nof, 268, 1)) (e_L 224 (0, ei_push (0, 16) 226, 0, 0))))) (e_T 229 (e_T 226 (e_L 226 (0, ei_bin eF_add 227, 0, 0)) (e_T 227 (e_L 227 (0, ei_load 6 0 229, 0, 0)) (e_L 229 (0, ei_bin eF_add 230, 0, 0)))) (e_T 230 (e_L 230 (0, ei_ald elay false 231, 0, 0)) (e_T 231 (e_L 231 (2, e_nof, 363, 2)) (e_L 234 (0, ei_goto 457, 0, 0)))))))
set_option maxRecDepth 20000 in
set_option maxHeartbeats 4000000 in
theorem te_374_46_ok : ∀ pc, e_EOq eft cls elay eI n_374 pc (te_374_46 pc) :=
  (e_Tok2
  (e_Tok2
  (e_Tok2
  (e_Tok2
  (e_Lok (ld_aload_n_0 (x_dk dn_374_0_1_ok 21 rfl)))
  (e_Lok (ld_aload_n_0 (x_dk dn_374_0_1_ok 22 rfl))))
  (e_Tok2
  (e_Lok (lk_12_663g ho_374 (x_dk dn_374_0_1_ok 23 rfl)))
  (e_Tok2
  (e_Lok (ld_iload_6 (x_dk dn_374_0_1_ok 24 rfl)))
  (e_Lok (lk_12_333 ho_374 (x_dk dn_374_0_2_ok 0 rfl))))))
  (e_Tok2
  (e_Tok2
  (e_Lok (e_st (I := eI) (er_ifne (off := 9) (tg := 212) (x_dk dn_374_0_2_ok 1 rfl) (by decide)) nx_if1))
  (e_Tok2
  (e_Lok (ld_aload_n_0 (x_dk dn_374_0_2_ok 2 rfl)))
  (e_Lok (ps_iconst_2 (x_dk dn_374_0_2_ok 3 rfl)))))
  (e_Tok2
  (e_Lok (lk_12_672 ho_374 (x_dk dn_374_0_2_ok 4 rfl)))
  (e_Tok2
  (e_Lok (e_rt (I := eI) (k := 0) ⟨(x_dk dn_374_0_2_ok 5 rfl), rfl⟩))
  (e_Lok (ld_aload_n_0 (x_dk dn_374_0_2_ok 6 rfl)))))))
  (e_Tok2
  (e_Tok2
  (e_Tok2
  (e_Lok (ld_aload_n_0 (x_dk dn_374_0_2_ok 7 rfl)))
  (e_Tok2
  (e_Lok (lk_12_8g ho_374 (x_dk dn_374_0_2_ok 8 rfl)))
  (e_Lok (ld_aload_n_0 (x_dk dn_374_0_2_ok 9 rfl)))))
  (e_Tok2
  (e_Lok (lk_12_663g ho_374 (x_dk dn_374_0_2_ok 10 rfl)))
  (e_Tok2
  (e_Lok (lk_12_294 ho_374 (x_dk dn_374_0_2_ok 11 rfl)))
  (e_Lok (ps_bipush_16 (x_dk dn_374_0_2_ok 12 rfl))))))
  (e_Tok2
  (e_Tok2
  (e_Lok (sm_iadd (x_dk dn_374_0_2_ok 13 rfl)))
  (e_Tok2
  (e_Lok (ld_iload_6 (x_dk dn_374_0_2_ok 14 rfl)))
  (e_Lok (sm_iadd (x_dk dn_374_0_2_ok 15 rfl)))))
  (e_Tok2
  (e_Lok (sm_iaload (x_dk dn_374_0_2_ok 16 rfl)))
  (e_Tok2
  (e_Lok (lk_12_711 ho_374 (x_dk dn_374_0_2_ok 17 rfl)))
  (e_Lok (e_st (I := eI) (er_goto (off := 223) (tg := 457) (x_dk dn_374_0_2_ok 18 rfl) (by decide)) nx_goto)))))))
def te_374_69 : Nat → eE := (e_T 255 (e_T 243 (e_T 238 (e_T 237 (e_L 237 (0, ei_load 0 2 238, 0, 0)) (e_L 238 (0, ei_load 0 2 239, 0, 0))) (e_T 239 (e_L 239 (0, ei_getf eft elay 12 0 242, 0, 0)) (e_T 242 (e_L 242 (0, ei_push (0, 0) 243, 0, 0)) (e_L 243 (0, ei_ald elay false 244, 0, 0))))) (e_T 250 (e_T 244 (e_L 244 (2, e_nof, 363, 2)) (e_T 247 (e_L 247 (0, ei_goto 457, 0, 0)) (e_L 250 (0, ei_load 0 2 251, 0, 0)))) (e_T 251 (e_L 251 (0, ei_load 0 2 252, 0, 0)) (e_T 252 (e_L 252 (0, ei_getf eft elay 12 0 255, 0, 0)) (e_L 255 (0, ei_load 0 2 256, 0, 0)))))) (e_T 265 (e_T 260 (e_T 256 (e_L 256 (0, ei_getf eft elay 12 97 259, 0, 0)) (e_T 259 (e_L 259 (0, ei_push (0, 3) 260, 0, 0)) (e_L 260 (0, ei_bin eF_add 261, 0, 0)))) (e_T 261 (e_L 261 (0, ei_ald elay false 262, 0, 0)) (e_T 262 (e_L 262 (2, e_nof, 363, 2)) (e_L 265 (0, ei_goto 457, 0, 0))))) (e_T 270 (e_T 268 (e_L 268 (0, ei_load 0 2 269, 0, 0)) (e_T 269 (e_L 269 (0, ei_load 0 2 270, 0, 0)) (e_L 270 (0, ei_getf eft elay 12 0 273, 0, 0)))) (e_T 273 (e_L 273 (0, ei_push (0, 1) 274, 0, 0)) (e_T 274 (e_L 274 (0, ei_ald elay false 275, 0, 0)) (e_L 275 (2, e_nof, 363, 2)))))))
set_option maxRecDepth 20000 in
set_option maxHeartbeats 4000000 in
theorem te_374_69_ok : ∀ pc, e_EOq eft cls elay eI n_374 pc (te_374_69 pc) :=
  (e_Tok2
  (e_Tok2
  (e_Tok2
  (e_Tok2
  (e_Lok (ld_aload_n_0 (x_dk dn_374_0_2_ok 19 rfl)))
  (e_Lok (ld_aload_n_0 (x_dk dn_374_0_2_ok 20 rfl))))
  (e_Tok2
  (e_Lok (lk_12_8g ho_374 (x_dk dn_374_0_2_ok 21 rfl)))
  (e_Tok2
  (e_Lok (ps_iconst_0 (x_dk dn_374_0_2_ok 22 rfl)))
  (e_Lok (sm_iaload (x_dk dn_374_0_2_ok 23 rfl))))))
  (e_Tok2
  (e_Tok2
  (e_Lok (lk_12_711 ho_374 (x_dk dn_374_0_2_ok 24 rfl)))
  (e_Tok2
  (e_Lok (e_st (I := eI) (er_goto (off := 210) (tg := 457) (x_dk dn_374_0_3_ok 0 rfl) (by decide)) nx_goto))
  (e_Lok (ld_aload_n_0 (x_dk dn_374_0_3_ok 1 rfl)))))
  (e_Tok2
  (e_Lok (ld_aload_n_0 (x_dk dn_374_0_3_ok 2 rfl)))
  (e_Tok2
  (e_Lok (lk_12_8g ho_374 (x_dk dn_374_0_3_ok 3 rfl)))
  (e_Lok (ld_aload_n_0 (x_dk dn_374_0_3_ok 4 rfl)))))))
  (e_Tok2
  (e_Tok2
  (e_Tok2
  (e_Lok (lk_12_651g ho_374 (x_dk dn_374_0_3_ok 5 rfl)))
  (e_Tok2
  (e_Lok (ps_iconst_3 (x_dk dn_374_0_3_ok 6 rfl)))
  (e_Lok (sm_iadd (x_dk dn_374_0_3_ok 7 rfl)))))
  (e_Tok2
  (e_Lok (sm_iaload (x_dk dn_374_0_3_ok 8 rfl)))
  (e_Tok2
  (e_Lok (lk_12_711 ho_374 (x_dk dn_374_0_3_ok 9 rfl)))
  (e_Lok (e_st (I := eI) (er_goto (off := 192) (tg := 457) (x_dk dn_374_0_3_ok 10 rfl) (by decide)) nx_goto)))))
  (e_Tok2
  (e_Tok2
  (e_Lok (ld_aload_n_0 (x_dk dn_374_0_3_ok 11 rfl)))
  (e_Tok2
  (e_Lok (ld_aload_n_0 (x_dk dn_374_0_3_ok 12 rfl)))
  (e_Lok (lk_12_8g ho_374 (x_dk dn_374_0_3_ok 13 rfl)))))
  (e_Tok2
  (e_Lok (ps_iconst_1 (x_dk dn_374_0_3_ok 14 rfl)))
  (e_Tok2
  (e_Lok (sm_iaload (x_dk dn_374_0_3_ok 15 rfl)))
  (e_Lok (lk_12_711 ho_374 (x_dk dn_374_0_3_ok 16 rfl))))))))
def te_374_92 : Nat → eE := (e_T 296 (e_T 286 (e_T 281 (e_T 278 (e_L 278 (0, ei_goto 457, 0, 0)) (e_L 281 (0, ei_load 0 2 282, 0, 0))) (e_T 282 (e_L 282 (0, ei_load 0 2 283, 0, 0)) (e_T 283 (e_L 283 (0, ei_getf eft elay 12 0 286, 0, 0)) (e_L 286 (0, ei_load 0 2 287, 0, 0))))) (e_T 293 (e_T 287 (e_L 287 (0, ei_getf eft elay 12 98 290, 0, 0)) (e_T 290 (e_L 290 (2, e_nof, 268, 1)) (e_L 293 (0, ei_push (0, 1) 294, 0, 0)))) (e_T 294 (e_L 294 (0, ei_bin eF_add 295, 0, 0)) (e_T 295 (e_L 295 (0, ei_ald elay false 296, 0, 0)) (e_L 296 (0, ei_if1 2 303 299, 0, 0)))))) (e_T 310 (e_T 303 (e_T 299 (e_L 299 (0, ei_push (0, 1) 300, 0, 0)) (e_T 300 (e_L 300 (0, ei_goto 304, 0, 0)) (e_L 303 (0, ei_push (0, 0) 304, 0, 0)))) (e_T 304 (e_L 304 (2, e_nof, 363, 2)) (e_T 307 (e_L 307 (0, ei_goto 457, 0, 0)) (e_L 310 (0, ei_load 0 2 311, 0, 0))))) (e_T 315 (e_T 311 (e_L 311 (0, ei_load 0 2 312, 0, 0)) (e_T 312 (e_L 312 (2, e_nof, 364, 1)) (e_L 315 (0, ei_un (fun x => (0, e32 (-x))) 316, 0, 0)))) (e_T 316 (e_L 316 (2, e_nof, 363, 2)) (e_T 319 (e_L 319 (0, ei_goto 457, 0, 0)) (e_L 322 (0, ei_load 0 2 323, 0, 0)))))))
set_option maxRecDepth 20000 in
set_option maxHeartbeats 4000000 in
theorem te_374_92_ok : ∀ pc, e_EOq eft cls elay eI n_374 pc (te_374_92 pc) :=
  (e_Tok2
  (e_Tok2
  (e_Tok2
  (e_Tok2
  (e_Lok (e_st (I := eI) (er_goto (off := 179) (tg := 457) (x_dk dn_374_0_3_ok 17 rfl) (by decide)) nx_goto))
  (e_Lok (ld_aload_n_0 (x_dk dn_374_0_3_ok 18 rfl))))
  (e_Tok2
  (e_Lok (ld_aload_n_0 (x_dk dn_374_0_3_ok 19 rfl)))
  (e_Tok2
  (e_Lok (lk_12_8g ho_374 (x_dk dn_374_0_3_ok 20 rfl)))
  (e_Lok (ld_aload_n_0 (x_dk dn_374_0_3_ok 21 rfl))))))
  (e_Tok2
  (e_Tok2
  (e_Lok (lk_12_663g ho_374 (x_dk dn_374_0_3_ok 22 rfl)))
  (e_Tok2
  (e_Lok (lk_12_294 ho_374 (x_dk dn_374_0_3_ok 23 rfl)))
  (e_Lok (ps_iconst_1 (x_dk dn_374_0_3_ok 24 rfl)))))
  (e_Tok2
  (e_Lok (sm_iadd (x_dk dn_374_1_0_ok 0 rfl)))
  (e_Tok2
  (e_Lok (sm_iaload (x_dk dn_374_1_0_ok 1 rfl)))
  (e_Lok (e_st (I := eI) (er_iflt (off := 7) (tg := 303) (x_dk dn_374_1_0_ok 2 rfl) (by decide)) nx_if1))))))
  (e_Tok2
  (e_Tok2
  (e_Tok2
  (e_Lok (ps_iconst_1 (x_dk dn_374_1_0_ok 3 rfl)))
  (e_Tok2
  (e_Lok (e_st (I := eI) (er_goto (off := 4) (tg := 304) (x_dk dn_374_1_0_ok 4 rfl) (by decide)) nx_goto))
  (e_Lok (ps_iconst_0 (x_dk dn_374_1_0_ok 5 rfl)))))
  (e_Tok2
  (e_Lok (lk_12_711 ho_374 (x_dk dn_374_1_0_ok 6 rfl)))
  (e_Tok2
  (e_Lok (e_st (I := eI) (er_goto (off := 150) (tg := 457) (x_dk dn_374_1_0_ok 7 rfl) (by decide)) nx_goto))
  (e_Lok (ld_aload_n_0 (x_dk dn_374_1_0_ok 8 rfl))))))
  (e_Tok2
  (e_Tok2
  (e_Lok (ld_aload_n_0 (x_dk dn_374_1_0_ok 9 rfl)))
  (e_Tok2
  (e_Lok (lk_12_714 ho_374 (x_dk dn_374_1_0_ok 10 rfl)))
  (e_Lok (e_st (I := eI) (er_ineg (x_dk dn_374_1_0_ok 11 rfl)) (nx_un (fun _ => rfl))))))
  (e_Tok2
  (e_Lok (lk_12_711 ho_374 (x_dk dn_374_1_0_ok 12 rfl)))
  (e_Tok2
  (e_Lok (e_st (I := eI) (er_goto (off := 138) (tg := 457) (x_dk dn_374_1_0_ok 13 rfl) (by decide)) nx_goto))
  (e_Lok (ld_aload_n_0 (x_dk dn_374_1_0_ok 14 rfl))))))))
def te_374_115 : Nat → eE := (e_T 343 (e_T 331 (e_T 324 (e_T 323 (e_L 323 (0, ei_load 0 2 324, 0, 0)) (e_L 324 (2, e_nof, 364, 1))) (e_T 327 (e_L 327 (0, ei_if1 1 334 330, 0, 0)) (e_T 330 (e_L 330 (0, ei_push (0, 1) 331, 0, 0)) (e_L 331 (0, ei_goto 335, 0, 0))))) (e_T 338 (e_T 334 (e_L 334 (0, ei_push (0, 0) 335, 0, 0)) (e_T 335 (e_L 335 (2, e_nof, 363, 2)) (e_L 338 (0, ei_goto 457, 0, 0)))) (e_T 341 (e_L 341 (0, ei_load 0 2 342, 0, 0)) (e_T 342 (e_L 342 (0, ei_load 0 2 343, 0, 0)) (e_L 343 (2, e_nof, 364, 1)))))) (e_T 357 (e_T 350 (e_T 346 (e_L 346 (0, ei_if1 1 353 349, 0, 0)) (e_T 349 (e_L 349 (0, ei_push (0, 0) 350, 0, 0)) (e_L 350 (0, ei_goto 354, 0, 0)))) (e_T 353 (e_L 353 (0, ei_push (0, 1) 354, 0, 0)) (e_T 354 (e_L 354 (2, e_nof, 363, 2)) (e_L 357 (0, ei_goto 457, 0, 0))))) (e_T 364 (e_T 360 (e_L 360 (0, ei_load 0 2 361, 0, 0)) (e_T 361 (e_L 361 (2, e_nof, 364, 1)) (e_L 364 (0, ei_if1 0 371 367, 0, 0)))) (e_T 367 (e_L 367 (0, ei_push (0, 1) 368, 0, 0)) (e_T 368 (e_L 368 (0, ei_goto 372, 0, 0)) (e_L 371 (0, ei_push (0, 0) 372, 0, 0)))))))
set_option maxRecDepth 20000 in
set_option maxHeartbeats 4000000 in
theorem te_374_115_ok : ∀ pc, e_EOq eft cls elay eI n_374 pc (te_374_115 pc) :=
  (e_Tok2
  (e_Tok2
  (e_Tok2
  (e_Tok2
  (e_Lok (ld_aload_n_0 (x_dk dn_374_1_0_ok 15 rfl)))
  (e_Lok (lk_12_714 ho_374 (x_dk dn_374_1_0_ok 16 rfl))))
  (e_Tok2
  (e_Lok (e_st (I := eI) (er_ifne (off := 7) (tg := 334) (x_dk dn_374_1_0_ok 17 rfl) (by decide)) nx_if1))
  (e_Tok2
  (e_Lok (ps_iconst_1 (x_dk dn_374_1_0_ok 18 rfl)))
  (e_Lok (e_st (I := eI) (er_goto (off := 4) (tg := 335) (x_dk dn_374_1_0_ok 19 rfl) (by decide)) nx_goto)))))
  (e_Tok2
  (e_Tok2
  (e_Lok (ps_iconst_0 (x_dk dn_374_1_0_ok 20 rfl)))
  (e_Tok2
  (e_Lok (lk_12_711 ho_374 (x_dk dn_374_1_0_ok 21 rfl)))
  (e_Lok (e_st (I := eI) (er_goto (off := 119) (tg := 457) (x_dk dn_374_1_0_ok 22 rfl) (by decide)) nx_goto))))
  (e_Tok2
  (e_Lok (ld_aload_n_0 (x_dk dn_374_1_0_ok 23 rfl)))
  (e_Tok2
  (e_Lok (ld_aload_n_0 (x_dk dn_374_1_0_ok 24 rfl)))
  (e_Lok (lk_12_714 ho_374 (x_dk dn_374_1_1_ok 0 rfl)))))))
  (e_Tok2
  (e_Tok2
  (e_Tok2
  (e_Lok (e_st (I := eI) (er_ifne (off := 7) (tg := 353) (x_dk dn_374_1_1_ok 1 rfl) (by decide)) nx_if1))
  (e_Tok2
  (e_Lok (ps_iconst_0 (x_dk dn_374_1_1_ok 2 rfl)))
  (e_Lok (e_st (I := eI) (er_goto (off := 4) (tg := 354) (x_dk dn_374_1_1_ok 3 rfl) (by decide)) nx_goto))))
  (e_Tok2
  (e_Lok (ps_iconst_1 (x_dk dn_374_1_1_ok 4 rfl)))
  (e_Tok2
  (e_Lok (lk_12_711 ho_374 (x_dk dn_374_1_1_ok 5 rfl)))
  (e_Lok (e_st (I := eI) (er_goto (off := 100) (tg := 457) (x_dk dn_374_1_1_ok 6 rfl) (by decide)) nx_goto)))))
  (e_Tok2
  (e_Tok2
  (e_Lok (ld_aload_n_0 (x_dk dn_374_1_1_ok 7 rfl)))
  (e_Tok2
  (e_Lok (lk_12_714 ho_374 (x_dk dn_374_1_1_ok 8 rfl)))
  (e_Lok (e_st (I := eI) (er_ifeq (off := 7) (tg := 371) (x_dk dn_374_1_1_ok 9 rfl) (by decide)) nx_if1))))
  (e_Tok2
  (e_Lok (ps_iconst_1 (x_dk dn_374_1_1_ok 10 rfl)))
  (e_Tok2
  (e_Lok (e_st (I := eI) (er_goto (off := 4) (tg := 372) (x_dk dn_374_1_1_ok 11 rfl) (by decide)) nx_goto))
  (e_Lok (ps_iconst_0 (x_dk dn_374_1_1_ok 12 rfl))))))))
def te_374_138 : Nat → eE := (e_T 391 (e_T 379 (e_T 374 (e_T 372 (e_L 372 (0, ei_stor 7 0 374, 0, 0)) (e_L 374 (0, ei_load 7 0 376, 0, 0))) (e_T 376 (e_L 376 (0, ei_load 1 0 377, 0, 0)) (e_T 377 (e_L 377 (0, ei_push (0, 22) 379, 0, 0)) (e_L 379 (0, ei_if2 1 386 382, 0, 0))))) (e_T 386 (e_T 382 (e_L 382 (0, ei_push (0, 1) 383, 0, 0)) (e_T 383 (e_L 383 (0, ei_goto 387, 0, 0)) (e_L 386 (0, ei_push (0, 0) 387, 0, 0)))) (e_T 387 (e_L 387 (0, ei_if2 1 457 390, 0, 0)) (e_T 390 (e_L 390 (0, ei_load 0 2 391, 0, 0)) (e_L 391 (0, ei_load 7 0 393, 0, 0)))))) (e_T 404 (e_T 397 (e_T 393 (e_L 393 (0, ei_if1 0 400 396, 0, 0)) (e_T 396 (e_L 396 (0, ei_push (0, 1) 397, 0, 0)) (e_L 397 (0, ei_goto 401, 0, 0)))) (e_T 400 (e_L 400 (0, ei_push (0, 0) 401, 0, 0)) (e_T 401 (e_L 401 (2, e_nof, 363, 2)) (e_L 404 (0, ei_load 2 0 405, 0, 0))))) (e_T 410 (e_T 405 (e_L 405 (0, ei_stor 4 0 407, 0, 0)) (e_T 407 (e_L 407 (0, ei_goto 457, 0, 0)) (e_L 410 (0, ei_load 0 2 411, 0, 0)))) (e_T 411 (e_L 411 (2, e_nof, 364, 1)) (e_T 414 (e_L 414 (0, ei_stor 8 0 416, 0, 0)) (e_L 416 (0, ei_load 0 2 417, 0, 0)))))))
set_option maxRecDepth 20000 in
set_option maxHeartbeats 4000000 in
theorem te_374_138_ok : ∀ pc, e_EOq eft cls elay eI n_374 pc (te_374_138 pc) :=
  (e_Tok2
  (e_Tok2
  (e_Tok2
  (e_Tok2
  (e_Lok (e_st (I := eI) (er_istore (i := 7) (x_dk dn_374_1_1_ok 13 rfl) (by decide +kernel)) nx_stor))
  (e_Lok (ld_iload_7 (x_dk dn_374_1_1_ok 14 rfl))))
  (e_Tok2
  (e_Lok (ld_iload_n_1 (x_dk dn_374_1_1_ok 15 rfl)))
  (e_Tok2
  (e_Lok (ps_bipush_22 (x_dk dn_374_1_1_ok 16 rfl)))
  (e_Lok (e_st (I := eI) (er_icmpne (off := 7) (tg := 386) (x_dk dn_374_1_1_ok 17 rfl) (by decide)) nx_if2)))))
  (e_Tok2
  (e_Tok2
  (e_Lok (ps_iconst_1 (x_dk dn_374_1_1_ok 18 rfl)))
  (e_Tok2
  (e_Lok (e_st (I := eI) (er_goto (off := 4) (tg := 387) (x_dk dn_374_1_1_ok 19 rfl) (by decide)) nx_goto))
  (e_Lok (ps_iconst_0 (x_dk dn_374_1_1_ok 20 rfl)))))
  (e_Tok2
  (e_Lok (e_st (I := eI) (er_icmpne (off := 70) (tg := 457) (x_dk dn_374_1_1_ok 21 rfl) (by decide)) nx_if2))
  (e_Tok2
  (e_Lok (ld_aload_n_0 (x_dk dn_374_1_1_ok 22 rfl)))
  (e_Lok (ld_iload_7 (x_dk dn_374_1_1_ok 23 rfl)))))))
  (e_Tok2
  (e_Tok2
  (e_Tok2
  (e_Lok (e_st (I := eI) (er_ifeq (off := 7) (tg := 400) (x_dk dn_374_1_1_ok 24 rfl) (by decide)) nx_if1))
  (e_Tok2
  (e_Lok (ps_iconst_1 (x_dk dn_374_1_2_ok 0 rfl)))
  (e_Lok (e_st (I := eI) (er_goto (off := 4) (tg := 401) (x_dk dn_374_1_2_ok 1 rfl) (by decide)) nx_goto))))
  (e_Tok2
  (e_Lok (ps_iconst_0 (x_dk dn_374_1_2_ok 2 rfl)))
  (e_Tok2
  (e_Lok (lk_12_711 ho_374 (x_dk dn_374_1_2_ok 3 rfl)))
  (e_Lok (ld_iload_n_2 (x_dk dn_374_1_2_ok 4 rfl))))))
  (e_Tok2
  (e_Tok2
  (e_Lok (e_st (I := eI) (er_istore (i := 4) (x_dk dn_374_1_2_ok 5 rfl) (by decide +kernel)) nx_stor))
  (e_Tok2
  (e_Lok (e_st (I := eI) (er_goto (off := 50) (tg := 457) (x_dk dn_374_1_2_ok 6 rfl) (by decide)) nx_goto))
  (e_Lok (ld_aload_n_0 (x_dk dn_374_1_2_ok 7 rfl)))))
  (e_Tok2
  (e_Lok (lk_12_714 ho_374 (x_dk dn_374_1_2_ok 8 rfl)))
  (e_Tok2
  (e_Lok (e_st (I := eI) (er_istore (i := 8) (x_dk dn_374_1_2_ok 9 rfl) (by decide +kernel)) nx_stor))
  (e_Lok (ld_aload_n_0 (x_dk dn_374_1_2_ok 10 rfl))))))))
def te_374_161 : Nat → eE := (e_T 440 (e_T 428 (e_T 422 (e_T 417 (e_L 417 (2, e_nof, 364, 1)) (e_T 420 (e_L 420 (0, ei_stor 9 0 422, 0, 0)) (e_L 422 (0, ei_load 8 0 424, 0, 0)))) (e_T 424 (e_L 424 (0, ei_if1 1 445 427, 0, 0)) (e_T 427 (e_L 427 (0, ei_load 1 0 428, 0, 0)) (e_L 428 (0, ei_push (0, 13) 430, 0, 0))))) (e_T 434 (e_T 430 (e_L 430 (0, ei_if2 0 439 433, 0, 0)) (e_T 433 (e_L 433 (0, ei_load 1 0 434, 0, 0)) (e_L 434 (0, ei_push (0, 14) 436, 0, 0)))) (e_T 436 (e_L 436 (0, ei_if2 1 445 439, 0, 0)) (e_T 439 (e_L 439 (0, ei_load 0 2 440, 0, 0)) (e_L 440 (0, ei_push (0, 1) 441, 0, 0)))))) (e_T 449 (e_T 445 (e_T 441 (e_L 441 (2, e_nof, 369, 2)) (e_T 444 (e_L 444 (1, e_nof, 0, 0)) (e_L 445 (0, ei_load 0 2 446, 0, 0)))) (e_T 446 (e_L 446 (0, ei_load 1 0 447, 0, 0)) (e_T 447 (e_L 447 (0, ei_load 9 0 449, 0, 0)) (e_L 449 (0, ei_load 8 0 451, 0, 0))))) (e_T 457 (e_T 451 (e_L 451 (2, e_nof, 375, 3)) (e_T 454 (e_L 454 (2, e_nof, 363, 2)) (e_L 457 (0, ei_load 0 2 458, 0, 0)))) (e_T 458 (e_L 458 (0, ei_load 4 0 460, 0, 0)) (e_T 460 (e_L 460 (2, e_nof, 365, 2)) (e_L 463 (1, e_nof, 0, 0)))))))
set_option maxRecDepth 20000 in
set_option maxHeartbeats 4000000 in
theorem te_374_161_ok : ∀ pc, e_EOq eft cls elay eI n_374 pc (te_374_161 pc) :=
  (e_Tok2
  (e_Tok2
  (e_Tok2
  (e_Tok2
  (e_Lok (lk_12_714 ho_374 (x_dk dn_374_1_2_ok 11 rfl)))
  (e_Tok2
  (e_Lok (e_st (I := eI) (er_istore (i := 9) (x_dk dn_374_1_2_ok 12 rfl) (by decide +kernel)) nx_stor))
  (e_Lok (ld_iload_8 (x_dk dn_374_1_2_ok 13 rfl)))))
  (e_Tok2
  (e_Lok (e_st (I := eI) (er_ifne (off := 21) (tg := 445) (x_dk dn_374_1_2_ok 14 rfl) (by decide)) nx_if1))
  (e_Tok2
  (e_Lok (ld_iload_n_1 (x_dk dn_374_1_2_ok 15 rfl)))
  (e_Lok (ps_bipush_13 (x_dk dn_374_1_2_ok 16 rfl))))))
  (e_Tok2
  (e_Tok2
  (e_Lok (e_st (I := eI) (er_icmpeq (off := 9) (tg := 439) (x_dk dn_374_1_2_ok 17 rfl) (by decide)) nx_if2))
  (e_Tok2
  (e_Lok (ld_iload_n_1 (x_dk dn_374_1_2_ok 18 rfl)))
  (e_Lok (ps_bipush_14 (x_dk dn_374_1_2_ok 19 rfl)))))
  (e_Tok2
  (e_Lok (e_st (I := eI) (er_icmpne (off := 9) (tg := 445) (x_dk dn_374_1_2_ok 20 rfl) (by decide)) nx_if2))
  (e_Tok2
  (e_Lok (ld_aload_n_0 (x_dk dn_374_1_2_ok 21 rfl)))
  (e_Lok (ps_iconst_1 (x_dk dn_374_1_2_ok 22 rfl)))))))
  (e_Tok2
  (e_Tok2
  (e_Tok2
  (e_Lok (lk_12_672 ho_374 (x_dk dn_374_1_2_ok 23 rfl)))
  (e_Tok2
  (e_Lok (e_rt (I := eI) (k := 0) ⟨(x_dk dn_374_1_2_ok 24 rfl), rfl⟩))
  (e_Lok (ld_aload_n_0 (x_dk dn_374_1_3_ok 0 rfl)))))
  (e_Tok2
  (e_Lok (ld_iload_n_1 (x_dk dn_374_1_3_ok 1 rfl)))
  (e_Tok2
  (e_Lok (ld_iload_9 (x_dk dn_374_1_3_ok 2 rfl)))
  (e_Lok (ld_iload_8 (x_dk dn_374_1_3_ok 3 rfl))))))
  (e_Tok2
  (e_Tok2
  (e_Lok (lk_12_717 ho_374 (x_dk dn_374_1_3_ok 4 rfl)))
  (e_Tok2
  (e_Lok (lk_12_711 ho_374 (x_dk dn_374_1_3_ok 5 rfl)))
  (e_Lok (ld_aload_n_0 (x_dk dn_374_1_3_ok 6 rfl)))))
  (e_Tok2
  (e_Lok (ld_iload_4 (x_dk dn_374_1_3_ok 7 rfl)))
  (e_Tok2
  (e_Lok (lk_12_678 ho_374 (x_dk dn_374_1_3_ok 8 rfl)))
  (e_Lok (e_rt (I := eI) (k := 0) ⟨(x_dk dn_374_1_3_ok 9 rfl), rfl⟩)))))))
def te_374 : Nat → eE := (e_T 275 (e_T 191 (e_T 143 te_374_0 te_374_23) (e_T 234 te_374_46 te_374_69)) (e_T 371 (e_T 322 te_374_92 te_374_115) (e_T 416 te_374_138 te_374_161)))
theorem te_374_ok : ∀ pc, e_EOq eft cls elay eI n_374 pc (te_374 pc) := (e_Tok2 ((e_Tok2 ((e_Tok2 (te_374_0_ok) (te_374_23_ok))) ((e_Tok2 (te_374_46_ok) (te_374_69_ok))))) ((e_Tok2 ((e_Tok2 (te_374_92_ok) (te_374_115_ok))) ((e_Tok2 (te_374_138_ok) (te_374_161_ok))))))
theorem ho_375 : (xm_y n_375).cls = "RobotCellHouseModel" := rfl
def dn_375_0_0 : List (Nat × Instr × Nat) := [(0, .iload_n 0, 1), (1, .tableswitch 130 10 19 #[55, 59, 63, 67, 71, 75, 86, 97, 108, 119], 55), (56, .iload_n 1, 1), (57, .iload_n 2, 1), (58, .iadd, 1), (59, .ireturn, 1), (60, .iload_n 1, 1), (61, .iload_n 2, 1), (62, .isub, 1), (63, .ireturn, 1), (64, .iload_n 1, 1), (65, .iload_n 2, 1), (66, .imul, 1), (67, .ireturn, 1), (68, .iload_n 1, 1), (69, .iload_n 2, 1), (70, .idiv, 1), (71, .ireturn, 1), (72, .iload_n 1, 1), (73, .iload_n 2, 1), (74, .irem, 1), (75, .ireturn, 1), (76, .iload_n 1, 1), (77, .iload_n 2, 1), (78, .if_icmp .ne 7, 3)]
set_option maxRecDepth 20000 in
theorem dn_375_0_0_ok : dn_375_0_0.all (fun q => decide (decode (xm_b n_375) q.1 = .ok (q.2.1, q.2.2))) = true := xa_g_ok (by decide +kernel)
def dn_375_0_1 : List (Nat × Instr × Nat) := [(81, .iconst 1, 1), (82, .goto 4, 3), (85, .iconst 0, 1), (86, .ireturn, 1), (87, .iload_n 1, 1), (88, .iload_n 2, 1), (89, .if_icmp .eq 7, 3), (92, .iconst 1, 1), (93, .goto 4, 3), (96, .iconst 0, 1), (97, .ireturn, 1), (98, .iload_n 1, 1), (99, .iload_n 2, 1), (100, .if_icmp .ge 7, 3), (103, .iconst 1, 1), (104, .goto 4, 3), (107, .iconst 0, 1), (108, .ireturn, 1), (109, .iload_n 1, 1), (110, .iload_n 2, 1), (111, .if_icmp .gt 7, 3), (114, .iconst 1, 1), (115, .goto 4, 3), (118, .iconst 0, 1), (119, .ireturn, 1)]
set_option maxRecDepth 20000 in
theorem dn_375_0_1_ok : dn_375_0_1.all (fun q => decide (decode (xm_b n_375) q.1 = .ok (q.2.1, q.2.2))) = true := xa_g_ok (by decide +kernel)
def dn_375_0_2 : List (Nat × Instr × Nat) := [(120, .iload_n 1, 1), (121, .iload_n 2, 1), (122, .if_icmp .le 7, 3), (125, .iconst 1, 1), (126, .goto 4, 3), (129, .iconst 0, 1), (130, .ireturn, 1), (131, .iload_n 1, 1), (132, .iload_n 2, 1), (133, .if_icmp .lt 7, 3), (136, .iconst 1, 1), (137, .goto 4, 3), (140, .iconst 0, 1), (141, .ireturn, 1)]
set_option maxRecDepth 20000 in
theorem dn_375_0_2_ok : dn_375_0_2.all (fun q => decide (decode (xm_b n_375) q.1 = .ok (q.2.1, q.2.2))) = true := xa_g_ok (by decide +kernel)
def te_375_0 : Nat → eE := (e_T 69 (e_T 61 (e_T 57 (e_T 1 (e_T 0 (e_L 0 (0, ei_load 0 0 1, 0, 0)) (e_L 1 (0, ei_sw [((-2147483648), 9, 131), (10, 10, 56), (11, 11, 60), (12, 12, 64), (13, 13, 68), (14, 14, 72), (15, 15, 76), (16, 16, 87), (17, 17, 98), (18, 18, 109), (19, 19, 120), (20, 2147483647, 131)], 0, 0))) (e_T 56 (e_L 56 (0, ei_load 1 0 57, 0, 0)) (e_L 57 (0, ei_load 2 0 58, 0, 0)))) (e_T 59 (e_T 58 (e_L 58 (0, ei_bin eF_add 59, 0, 0)) (e_L 59 (1, e_nof, 1, 0))) (e_T 60 (e_L 60 (0, ei_load 1 0 61, 0, 0)) (e_L 61 (0, ei_load 2 0 62, 0, 0))))) (e_T 65 (e_T 63 (e_T 62 (e_L 62 (0, ei_bin eF_sub 63, 0, 0)) (e_L 63 (1, e_nof, 1, 0))) (e_T 64 (e_L 64 (0, ei_load 1 0 65, 0, 0)) (e_L 65 (0, ei_load 2 0 66, 0, 0)))) (e_T 67 (e_T 66 (e_L 66 (0, ei_bin eF_mul 67, 0, 0)) (e_L 67 (1, e_nof, 1, 0))) (e_T 68 (e_L 68 (0, ei_load 1 0 69, 0, 0)) (e_L 69 (0, ei_load 2 0 70, 0, 0)))))) (e_T 77 (e_T 73 (e_T 71 (e_T 70 (e_L 70 (0, ei_bin eF_div 71, 0, 0)) (e_L 71 (1, e_nof, 1, 0))) (e_T 72 (e_L 72 (0, ei_load 1 0 73, 0, 0)) (e_L 73 (0, ei_load 2 0 74, 0, 0)))) (e_T 75 (e_T 74 (e_L 74 (0, ei_bin eF_rem 75, 0, 0)) (e_L 75 (1, e_nof, 1, 0))) (e_T 76 (e_L 76 (0, ei_load 1 0 77, 0, 0)) (e_L 77 (0, ei_load 2 0 78, 0, 0))))) (e_T 85 (e_T 81 (e_T 78 (e_L 78 (0, ei_if2 1 85 81, 0, 0)) (e_L 81 (0, ei_push (0, 1) 82, 0, 0))) (e_T 82 (e_L 82 (0, ei_goto 86, 0, 0)) (e_L 85 (0, ei_push (0, 0) 86, 0, 0)))) (e_T 87 (e_T 86 (e_L 86 (1, e_nof, 1, 0)) (e_L 87 (0, ei_load 1 0 88, 0, 0))) (e_T 88 (e_L 88 (0, ei_load 2 0 89, 0, 0)) (e_L 89 (0, ei_if2 0 96 92, 0, 0)))))))
set_option maxRecDepth 20000 in
set_option maxHeartbeats 4000000 in
theorem te_375_0_ok : ∀ pc, e_EOq eft cls elay eI n_375 pc (te_375_0 pc) :=
  (e_Tok2
  (e_Tok2
  (e_Tok2
  (e_Tok2
  (e_Tok2
  (e_Lok (ld_iload_n_0 (x_dk dn_375_0_0_ok 0 rfl)))
  (e_Lok (e_st (I := eI) (er_tsw (dflt := 130) (lo := 10) (hi := 19) (offs := #[55, 59, 63, 67, 71, 75, 86, 97, 108, 119]) (len := 55) (n := 10) (x_dk dn_375_0_0_ok 1 rfl) (by decide) (by decide +kernel)) nx_sw)))
  (e_Tok2
  (e_Lok (ld_iload_n_1 (x_dk dn_375_0_0_ok 2 rfl)))
  (e_Lok (ld_iload_n_2 (x_dk dn_375_0_0_ok 3 rfl)))))
  (e_Tok2
  (e_Tok2
  (e_Lok (sm_iadd (x_dk dn_375_0_0_ok 4 rfl)))
  (e_Lok (e_rt (I := eI) (k := 1) ⟨(x_dk dn_375_0_0_ok 5 rfl), rfl⟩)))
  (e_Tok2
  (e_Lok (ld_iload_n_1 (x_dk dn_375_0_0_ok 6 rfl)))
  (e_Lok (ld_iload_n_2 (x_dk dn_375_0_0_ok 7 rfl))))))
  (e_Tok2
  (e_Tok2
  (e_Tok2
  (e_Lok (sm_isub (x_dk dn_375_0_0_ok 8 rfl)))
  (e_Lok (e_rt (I := eI) (k := 1) ⟨(x_dk dn_375_0_0_ok 9 rfl), rfl⟩)))
  (e_Tok2
  (e_Lok (ld_iload_n_1 (x_dk dn_375_0_0_ok 10 rfl)))
  (e_Lok (ld_iload_n_2 (x_dk dn_375_0_0_ok 11 rfl)))))
  (e_Tok2
  (e_Tok2
  (e_Lok (sm_imul (x_dk dn_375_0_0_ok 12 rfl)))
  (e_Lok (e_rt (I := eI) (k := 1) ⟨(x_dk dn_375_0_0_ok 13 rfl), rfl⟩)))
  (e_Tok2
  (e_Lok (ld_iload_n_1 (x_dk dn_375_0_0_ok 14 rfl)))
  (e_Lok (ld_iload_n_2 (x_dk dn_375_0_0_ok 15 rfl)))))))
  (e_Tok2
  (e_Tok2
  (e_Tok2
  (e_Tok2
  (e_Lok (e_st (I := eI) (er_idiv (x_dk dn_375_0_0_ok 16 rfl)) nx_bin))
  (e_Lok (e_rt (I := eI) (k := 1) ⟨(x_dk dn_375_0_0_ok 17 rfl), rfl⟩)))
  (e_Tok2
  (e_Lok (ld_iload_n_1 (x_dk dn_375_0_0_ok 18 rfl)))
  (e_Lok (ld_iload_n_2 (x_dk dn_375_0_0_ok 19 rfl)))))
  (e_Tok2
  (e_Tok2
  (e_Lok (e_st (I := eI) (er_irem (x_dk dn_375_0_0_ok 20 rfl)) nx_bin))
  (e_Lok (e_rt (I := eI) (k := 1) ⟨(x_dk dn_375_0_0_ok 21 rfl), rfl⟩)))
  (e_Tok2
  (e_Lok (ld_iload_n_1 (x_dk dn_375_0_0_ok 22 rfl)))
  (e_Lok (ld_iload_n_2 (x_dk dn_375_0_0_ok 23 rfl))))))
  (e_Tok2
  (e_Tok2
  (e_Tok2
  (e_Lok (e_st (I := eI) (er_icmpne (off := 7) (tg := 85) (x_dk dn_375_0_0_ok 24 rfl) (by decide)) nx_if2))
  (e_Lok (ps_iconst_1 (x_dk dn_375_0_1_ok 0 rfl))))
  (e_Tok2
  (e_Lok (e_st (I := eI) (er_goto (off := 4) (tg := 86) (x_dk dn_375_0_1_ok 1 rfl) (by decide)) nx_goto))
  (e_Lok (ps_iconst_0 (x_dk dn_375_0_1_ok 2 rfl)))))
  (e_Tok2
  (e_Tok2
  (e_Lok (e_rt (I := eI) (k := 1) ⟨(x_dk dn_375_0_1_ok 3 rfl), rfl⟩))
  (e_Lok (ld_iload_n_1 (x_dk dn_375_0_1_ok 4 rfl))))
  (e_Tok2
  (e_Lok (ld_iload_n_2 (x_dk dn_375_0_1_ok 5 rfl)))
  (e_Lok (e_st (I := eI) (er_icmpeq (off := 7) (tg := 96) (x_dk dn_375_0_1_ok 6 rfl) (by decide)) nx_if2)))))))
def te_375_32 : Nat → eE := (e_T 115 (e_T 103 (e_T 97 (e_T 93 (e_T 92 (e_L 92 (0, ei_push (0, 1) 93, 0, 0)) (e_L 93 (0, ei_goto 97, 0, 0))) (e_T 96 (e_L 96 (0, ei_push (0, 0) 97, 0, 0)) (e_L 97 (1, e_nof, 1, 0)))) (e_T 99 (e_T 98 (e_L 98 (0, ei_load 1 0 99, 0, 0)) (e_L 99 (0, ei_load 2 0 100, 0, 0))) (e_T 100 (e_L 100 (0, ei_if2 3 107 103, 0, 0)) (e_L 103 (0, ei_push (0, 1) 104, 0, 0))))) (e_T 109 (e_T 107 (e_T 104 (e_L 104 (0, ei_goto 108, 0, 0)) (e_L 107 (0, ei_push (0, 0) 108, 0, 0))) (e_T 108 (e_L 108 (1, e_nof, 1, 0)) (e_L 109 (0, ei_load 1 0 110, 0, 0)))) (e_T 111 (e_T 110 (e_L 110 (0, ei_load 2 0 111, 0, 0)) (e_L 111 (0, ei_if2 4 118 114, 0, 0))) (e_T 114 (e_L 114 (0, ei_push (0, 1) 115, 0, 0)) (e_L 115 (0, ei_goto 119, 0, 0)))))) (e_T 129 (e_T 121 (e_T 119 (e_T 118 (e_L 118 (0, ei_push (0, 0) 119, 0, 0)) (e_L 119 (1, e_nof, 1, 0))) (e_T 120 (e_L 120 (0, ei_load 1 0 121, 0, 0)) (e_L 121 (0, ei_load 2 0 122, 0, 0)))) (e_T 125 (e_T 122 (e_L 122 (0, ei_if2 5 129 125, 0, 0)) (e_L 125 (0, ei_push (0, 1) 126, 0, 0))) (e_T 126 (e_L 126 (0, ei_goto 130, 0, 0)) (e_L 129 (0, ei_push (0, 0) 130, 0, 0))))) (e_T 133 (e_T 131 (e_T 130 (e_L 130 (1, e_nof, 1, 0)) (e_L 131 (0, ei_load 1 0 132, 0, 0))) (e_T 132 (e_L 132 (0, ei_load 2 0 133, 0, 0)) (e_L 133 (0, ei_if2 2 140 136, 0, 0)))) (e_T 137 (e_T 136 (e_L 136 (0, ei_push (0, 1) 137, 0, 0)) (e_L 137 (0, ei_goto 141, 0, 0))) (e_T 140 (e_L 140 (0, ei_push (0, 0) 141, 0, 0)) (e_L 141 (1, e_nof, 1, 0)))))))
set_option maxRecDepth 20000 in
set_option maxHeartbeats 4000000 in
theorem te_375_32_ok : ∀ pc, e_EOq eft cls elay eI n_375 pc (te_375_32 pc) :=
  (e_Tok2
  (e_Tok2
  (e_Tok2
  (e_Tok2
  (e_Tok2
  (e_Lok (ps_iconst_1 (x_dk dn_375_0_1_ok 7 rfl)))
  (e_Lok (e_st (I := eI) (er_goto (off := 4) (tg := 97) (x_dk dn_375_0_1_ok 8 rfl) (by decide)) nx_goto)))
  (e_Tok2
  (e_Lok (ps_iconst_0 (x_dk dn_375_0_1_ok 9 rfl)))
  (e_Lok (e_rt (I := eI) (k := 1) ⟨(x_dk dn_375_0_1_ok 10 rfl), rfl⟩))))
  (e_Tok2
  (e_Tok2
  (e_Lok (ld_iload_n_1 (x_dk dn_375_0_1_ok 11 rfl)))
  (e_Lok (ld_iload_n_2 (x_dk dn_375_0_1_ok 12 rfl))))
  (e_Tok2
  (e_Lok (e_st (I := eI) (er_icmpge (off := 7) (tg := 107) (x_dk dn_375_0_1_ok 13 rfl) (by decide)) nx_if2))
  (e_Lok (ps_iconst_1 (x_dk dn_375_0_1_ok 14 rfl))))))
  (e_Tok2
  (e_Tok2
  (e_Tok2
  (e_Lok (e_st (I := eI) (er_goto (off := 4) (tg := 108) (x_dk dn_375_0_1_ok 15 rfl) (by decide)) nx_goto))
  (e_Lok (ps_iconst_0 (x_dk dn_375_0_1_ok 16 rfl))))
  (e_Tok2
  (e_Lok (e_rt (I := eI) (k := 1) ⟨(x_dk dn_375_0_1_ok 17 rfl), rfl⟩))
  (e_Lok (ld_iload_n_1 (x_dk dn_375_0_1_ok 18 rfl)))))
  (e_Tok2
  (e_Tok2
  (e_Lok (ld_iload_n_2 (x_dk dn_375_0_1_ok 19 rfl)))
  (e_Lok (e_st (I := eI) (er_icmpgt (off := 7) (tg := 118) (x_dk dn_375_0_1_ok 20 rfl) (by decide)) nx_if2)))
  (e_Tok2
  (e_Lok (ps_iconst_1 (x_dk dn_375_0_1_ok 21 rfl)))
  (e_Lok (e_st (I := eI) (er_goto (off := 4) (tg := 119) (x_dk dn_375_0_1_ok 22 rfl) (by decide)) nx_goto))))))
  (e_Tok2
  (e_Tok2
  (e_Tok2
  (e_Tok2
  (e_Lok (ps_iconst_0 (x_dk dn_375_0_1_ok 23 rfl)))
  (e_Lok (e_rt (I := eI) (k := 1) ⟨(x_dk dn_375_0_1_ok 24 rfl), rfl⟩)))
  (e_Tok2
  (e_Lok (ld_iload_n_1 (x_dk dn_375_0_2_ok 0 rfl)))
  (e_Lok (ld_iload_n_2 (x_dk dn_375_0_2_ok 1 rfl)))))
  (e_Tok2
  (e_Tok2
  (e_Lok (e_st (I := eI) (er_icmple (off := 7) (tg := 129) (x_dk dn_375_0_2_ok 2 rfl) (by decide)) nx_if2))
  (e_Lok (ps_iconst_1 (x_dk dn_375_0_2_ok 3 rfl))))
  (e_Tok2
  (e_Lok (e_st (I := eI) (er_goto (off := 4) (tg := 130) (x_dk dn_375_0_2_ok 4 rfl) (by decide)) nx_goto))
  (e_Lok (ps_iconst_0 (x_dk dn_375_0_2_ok 5 rfl))))))
  (e_Tok2
  (e_Tok2
  (e_Tok2
  (e_Lok (e_rt (I := eI) (k := 1) ⟨(x_dk dn_375_0_2_ok 6 rfl), rfl⟩))
  (e_Lok (ld_iload_n_1 (x_dk dn_375_0_2_ok 7 rfl))))
  (e_Tok2
  (e_Lok (ld_iload_n_2 (x_dk dn_375_0_2_ok 8 rfl)))
  (e_Lok (e_st (I := eI) (er_icmplt (off := 7) (tg := 140) (x_dk dn_375_0_2_ok 9 rfl) (by decide)) nx_if2))))
  (e_Tok2
  (e_Tok2
  (e_Lok (ps_iconst_1 (x_dk dn_375_0_2_ok 10 rfl)))
  (e_Lok (e_st (I := eI) (er_goto (off := 4) (tg := 141) (x_dk dn_375_0_2_ok 11 rfl) (by decide)) nx_goto)))
  (e_Tok2
  (e_Lok (ps_iconst_0 (x_dk dn_375_0_2_ok 12 rfl)))
  (e_Lok (e_rt (I := eI) (k := 1) ⟨(x_dk dn_375_0_2_ok 13 rfl), rfl⟩)))))))
def te_375 : Nat → eE := (e_T 89 te_375_0 te_375_32)
theorem te_375_ok : ∀ pc, e_EOq eft cls elay eI n_375 pc (te_375 pc) := (e_Tok2 (te_375_0_ok) (te_375_32_ok))
theorem ho_376 : (xm_y n_376).cls = "RobotCellHouseModel" := rfl
def dn_376_0_0 : List (Nat × Instr × Nat) := [(0, .iload_n 1, 1), (1, .tableswitch 398 31 51 #[99, 124, 131, 194, 398, 398, 398, 247, 398, 222, 231, 398, 398, 398, 254, 276, 298, 317, 323, 323, 383], 99), (100, .aload_n 0, 1), (101, .getfield 8, 3), (104, .sipush 20932, 3), (107, .bipush 32, 2), (109, .aload_n 0, 1), (110, .getfield 663, 3), (113, .imul, 1), (114, .iadd, 1), (115, .iload_n 2, 1), (116, .iadd, 1), (117, .aload_n 0, 1), (118, .invokevirtual 714, 3), (121, .iastore, 1), (122, .goto 297, 3), (125, .aload_n 0, 1), (126, .iload_n 2, 1), (127, .iload_n 3, 1), (128, .invokevirtual 720, 3), (131, .return_, 1), (132, .aload_n 0, 1), (133, .invokevirtual 714, 3), (136, .istore 4, 2), (138, .iload 4, 2)]
set_option maxRecDepth 20000 in
theorem dn_376_0_0_ok : dn_376_0_0.all (fun q => decide (decode (xm_b n_376) q.1 = .ok (q.2.1, q.2.2))) = true := xa_g_ok (by decide +kernel)
def dn_376_0_1 : List (Nat × Instr × Nat) := [(140, .ifCond .le 279, 3), (143, .aload_n 0, 1), (144, .getfield 8, 3), (147, .aload_n 0, 1), (148, .getfield 651, 3), (151, .iconst 3, 1), (152, .iastore, 1), (153, .aload_n 0, 1), (154, .getfield 8, 3), (157, .aload_n 0, 1), (158, .getfield 651, 3), (161, .iconst 4, 1), (162, .iadd, 1), (163, .iload 4, 2), (165, .sipush 6000, 3), (168, .if_icmp .le 9, 3), (171, .sipush 6001, 3), (174, .goto 12, 3), (177, .aload_n 0, 1), (178, .getfield 8, 3), (181, .iconst 0, 1), (182, .iaload, 1), (183, .iload 4, 2), (185, .iadd, 1), (186, .iastore, 1)]
set_option maxRecDepth 20000 in
theorem dn_376_0_1_ok : dn_376_0_1.all (fun q => decide (decode (xm_b n_376) q.1 = .ok (q.2.1, q.2.2))) = true := xa_g_ok (by decide +kernel)
def dn_376_0_2 : List (Nat × Instr × Nat) := [(187, .aload_n 0, 1), (188, .iconst 1, 1), (189, .putfield 669, 3), (192, .goto 227, 3), (195, .aload_n 0, 1), (196, .invokevirtual 714, 3), (199, .ifCond .ne 220, 3), (202, .aload_n 0, 1), (203, .getfield 8, 3), (206, .aload_n 0, 1), (207, .getfield 651, 3), (210, .iconst 4, 1), (211, .iastore, 1), (212, .aload_n 0, 1), (213, .iconst 1, 1), (214, .putfield 669, 3), (217, .aload_n 0, 1), (218, .iload_n 2, 1), (219, .invokevirtual 678, 3), (222, .return_, 1), (223, .aload_n 0, 1), (224, .aload_n 0, 1), (225, .invokevirtual 714, 3), (228, .invokevirtual 672, 3), (231, .return_, 1)]
set_option maxRecDepth 20000 in
theorem dn_376_0_2_ok : dn_376_0_2.all (fun q => decide (decode (xm_b n_376) q.1 = .ok (q.2.1, q.2.2))) = true := xa_g_ok (by decide +kernel)
def dn_376_0_3 : List (Nat × Instr × Nat) := [(232, .aload_n 0, 1), (233, .iconst 1, 1), (234, .aload_n 0, 1), (235, .getfield 660, 3), (238, .aload_n 0, 1), (239, .invokevirtual 714, 3), (242, .invokevirtual 693, 3), (245, .goto 174, 3), (248, .aload_n 0, 1), (249, .iload_n 2, 1), (250, .iconst 0, 1), (251, .invokevirtual 681, 3), (254, .return_, 1), (255, .aload_n 0, 1), (256, .aload_n 0, 1), (257, .getfield 177, 3), (260, .sipush 10000, 3), (263, .aload_n 0, 1), (264, .getfield 663, 3), (267, .imul, 1), (268, .iload_n 3, 1), (269, .iadd, 1), (270, .iaload, 1), (271, .iconst 2, 1), (272, .iconst 0, 1)]
set_option maxRecDepth 20000 in
theorem dn_376_0_3_ok : dn_376_0_3.all (fun q => decide (decode (xm_b n_376) q.1 = .ok (q.2.1, q.2.2))) = true := xa_g_ok (by decide +kernel)
def dn_376_1_0 : List (Nat × Instr × Nat) := [(273, .invokevirtual 684, 3), (276, .return_, 1), (277, .aload_n 0, 1), (278, .aload_n 0, 1), (279, .getfield 177, 3), (282, .sipush 10000, 3), (285, .aload_n 0, 1), (286, .getfield 663, 3), (289, .imul, 1), (290, .iload_n 3, 1), (291, .iadd, 1), (292, .iaload, 1), (293, .iconst 3, 1), (294, .iload_n 2, 1), (295, .invokevirtual 684, 3), (298, .return_, 1), (299, .aload_n 0, 1), (300, .aload_n 0, 1), (301, .invokevirtual 714, 3), (304, .ifCond .ne 7, 3), (307, .iload_n 2, 1), (308, .goto 6, 3), (311, .iload_n 3, 1), (312, .iconst 1, 1), (313, .iadd, 1)]
set_option maxRecDepth 20000 in
theorem dn_376_1_0_ok : dn_376_1_0.all (fun q => decide (decode (xm_b n_376) q.1 = .ok (q.2.1, q.2.2))) = true := xa_g_ok (by decide +kernel)
def dn_376_1_1 : List (Nat × Instr × Nat) := [(314, .invokevirtual 678, 3), (317, .return_, 1), (318, .aload_n 0, 1), (319, .iload_n 2, 1), (320, .invokevirtual 678, 3), (323, .return_, 1), (324, .sipush 900, 3), (327, .aload_n 0, 1), (328, .getfield 663, 3), (331, .imul, 1), (332, .iload_n 2, 1), (333, .iadd, 1), (334, .istore 5, 2), (336, .aload_n 0, 1), (337, .getfield 186, 3), (340, .iload 5, 2), (342, .iaload, 1), (343, .ifCond .lt 9, 3), (346, .aload_n 0, 1), (347, .iconst 0, 1), (348, .iconst 0, 1), (349, .invokevirtual 690, 3), (352, .aload_n 0, 1), (353, .aload_n 0, 1), (354, .getfield 186, 3)]
set_option maxRecDepth 20000 in
theorem dn_376_1_1_ok : dn_376_1_1.all (fun q => decide (decode (xm_b n_376) q.1 = .ok (q.2.1, q.2.2))) = true := xa_g_ok (by decide +kernel)
def dn_376_1_2 : List (Nat × Instr × Nat) := [(357, .iload 5, 2), (359, .iaload, 1), (360, .ifCond .lt 13, 3), (363, .aload_n 0, 1), (364, .getfield 186, 3), (367, .iload 5, 2), (369, .iaload, 1), (370, .goto 10, 3), (373, .aload_n 0, 1), (374, .getfield 189, 3), (377, .iload 5, 2), (379, .iaload, 1), (380, .invokevirtual 678, 3), (383, .return_, 1), (384, .aload_n 0, 1), (385, .sipush 900, 3), (388, .aload_n 0, 1), (389, .getfield 663, 3), (392, .imul, 1), (393, .iload_n 2, 1), (394, .iadd, 1), (395, .invokevirtual 723, 3), (398, .return_, 1), (399, .aload_n 0, 1), (400, .iload_n 1, 1)]
set_option maxRecDepth 20000 in
theorem dn_376_1_2_ok : dn_376_1_2.all (fun q => decide (decode (xm_b n_376) q.1 = .ok (q.2.1, q.2.2))) = true := xa_g_ok (by decide +kernel)
def dn_376_1_3 : List (Nat × Instr × Nat) := [(401, .iload_n 2, 1), (402, .invokevirtual 726, 3), (405, .istore 6, 2), (407, .iload 6, 2), (409, .ifCond .eq 10, 3), (412, .aload_n 0, 1), (413, .iload 6, 2), (415, .invokevirtual 672, 3), (418, .return_, 1), (419, .aload_n 0, 1), (420, .iload_n 3, 1), (421, .iconst 1, 1), (422, .iadd, 1), (423, .invokevirtual 678, 3), (426, .return_, 1)]
set_option maxRecDepth 20000 in
theorem dn_376_1_3_ok : dn_376_1_3.all (fun q => decide (decode (xm_b n_376) q.1 = .ok (q.2.1, q.2.2))) = true := xa_g_ok (by decide +kernel)
def te_376_0 : Nat → eE := (e_T 115 (e_T 104 (e_T 1 (e_T 0 (e_L 0 (0, ei_load 1 0 1, 0, 0)) (e_L 1 (0, ei_sw [((-2147483648), 30, 399), (31, 31, 100), (32, 32, 125), (33, 33, 132), (34, 34, 195), (35, 35, 399), (36, 36, 399), (37, 37, 399), (38, 38, 248), (39, 39, 399), (40, 40, 223), (41, 41, 232), (42, 42, 399), (43, 43, 399), (44, 44, 399), (45, 45, 255), (46, 46, 277), (47, 47, 299), (48, 48, 318), (49, 49, 324), (50, 50, 324), (51, 51, 384), (52, 2147483647, 399)], 0, 0))) (e_T 100 (e_L 100 (0, ei_load 0 2 101, 0, 0)) (e_T 101 (e_L 101 (0, ei_getf eft elay 12 0 104, 0, 0)) (e_L 104 (0, ei_push (0, 20932) 107, 0, 0))))) (e_T 110 (e_T 107 (e_L 107 (0, ei_push (0, 32) 109, 0, 0)) (e_T 109 (e_L 109 (0, ei_load 0 2 110, 0, 0)) (e_L 110 (0, ei_getf eft elay 12 98 113, 0, 0)))) (e_T 113 (e_L 113 (0, ei_bin eF_mul 114, 0, 0)) (e_T 114 (e_L 114 (0, ei_bin eF_add 115, 0, 0)) (e_L 115 (0, ei_load 2 0 116, 0, 0)))))) (e_T 125 (e_T 118 (e_T 116 (e_L 116 (0, ei_bin eF_add 117, 0, 0)) (e_T 117 (e_L 117 (0, ei_load 0 2 118, 0, 0)) (e_L 118 (2, e_nof, 364, 1)))) (e_T 121 (e_L 121 (0, ei_ast elay false 122, 0, 0)) (e_T 122 (e_L 122 (0, ei_goto 419, 0, 0)) (e_L 125 (0, ei_load 0 2 126, 0, 0))))) (e_T 128 (e_T 126 (e_L 126 (0, ei_load 2 0 127, 0, 0)) (e_T 127 (e_L 127 (0, ei_load 3 0 128, 0, 0)) (e_L 128 (2, e_nof, 380, 3)))) (e_T 131 (e_L 131 (1, e_nof, 0, 0)) (e_T 132 (e_L 132 (0, ei_load 0 2 133, 0, 0)) (e_L 133 (2, e_nof, 364, 1)))))))
set_option maxRecDepth 20000 in
set_option maxHeartbeats 4000000 in
theorem te_376_0_ok : ∀ pc, e_EOq eft cls elay eI n_376 pc (te_376_0 pc) :=
  (e_Tok2
  (e_Tok2
  (e_Tok2
  (e_Tok2
  (e_Lok (ld_iload_n_1 (x_dk dn_376_0_0_ok 0 rfl)))
  (e_Lok (e_st (I := eI) (er_tsw (dflt := 398) (lo := 31) (hi := 51) (offs := #[99, 124, 131, 194, 398, 398, 398, 247, 398, 222, 231, 398, 398, 398, 254, 276, 298, 317, 323, 323, 383]) (len := 99) (n := 21) (x_dk dn_376_0_0_ok 1 rfl) (by decide) (by decide +kernel)) nx_sw)))
  (e_Tok2
  (e_Lok (ld_aload_n_0 (x_dk dn_376_0_0_ok 2 rfl)))
  (e_Tok2
  (e_Lok (lk_12_8g ho_376 (x_dk dn_376_0_0_ok 3 rfl)))
  (e_Lok (ps_sipush_20932 (x_dk dn_376_0_0_ok 4 rfl))))))
  (e_Tok2
  (e_Tok2
  (e_Lok (ps_bipush_32 (x_dk dn_376_0_0_ok 5 rfl)))
  (e_Tok2
  (e_Lok (ld_aload_n_0 (x_dk dn_376_0_0_ok 6 rfl)))
  (e_Lok (lk_12_663g ho_376 (x_dk dn_376_0_0_ok 7 rfl)))))
  (e_Tok2
  (e_Lok (sm_imul (x_dk dn_376_0_0_ok 8 rfl)))
  (e_Tok2
  (e_Lok (sm_iadd (x_dk dn_376_0_0_ok 9 rfl)))
  (e_Lok (ld_iload_n_2 (x_dk dn_376_0_0_ok 10 rfl)))))))
  (e_Tok2
  (e_Tok2
  (e_Tok2
  (e_Lok (sm_iadd (x_dk dn_376_0_0_ok 11 rfl)))
  (e_Tok2
  (e_Lok (ld_aload_n_0 (x_dk dn_376_0_0_ok 12 rfl)))
  (e_Lok (lk_12_714 ho_376 (x_dk dn_376_0_0_ok 13 rfl)))))
  (e_Tok2
  (e_Lok (sm_iastore (x_dk dn_376_0_0_ok 14 rfl)))
  (e_Tok2
  (e_Lok (e_st (I := eI) (er_goto (off := 297) (tg := 419) (x_dk dn_376_0_0_ok 15 rfl) (by decide)) nx_goto))
  (e_Lok (ld_aload_n_0 (x_dk dn_376_0_0_ok 16 rfl))))))
  (e_Tok2
  (e_Tok2
  (e_Lok (ld_iload_n_2 (x_dk dn_376_0_0_ok 17 rfl)))
  (e_Tok2
  (e_Lok (ld_iload_n_3 (x_dk dn_376_0_0_ok 18 rfl)))
  (e_Lok (lk_12_720 ho_376 (x_dk dn_376_0_0_ok 19 rfl)))))
  (e_Tok2
  (e_Lok (e_rt (I := eI) (k := 0) ⟨(x_dk dn_376_0_0_ok 20 rfl), rfl⟩))
  (e_Tok2
  (e_Lok (ld_aload_n_0 (x_dk dn_376_0_0_ok 21 rfl)))
  (e_Lok (lk_12_714 ho_376 (x_dk dn_376_0_0_ok 22 rfl))))))))
def te_376_23 : Nat → eE := (e_T 157 (e_T 147 (e_T 140 (e_T 136 (e_L 136 (0, ei_stor 4 0 138, 0, 0)) (e_T 138 (e_L 138 (0, ei_load 4 0 140, 0, 0)) (e_L 140 (0, ei_if1 5 419 143, 0, 0)))) (e_T 143 (e_L 143 (0, ei_load 0 2 144, 0, 0)) (e_T 144 (e_L 144 (0, ei_getf eft elay 12 0 147, 0, 0)) (e_L 147 (0, ei_load 0 2 148, 0, 0))))) (e_T 152 (e_T 148 (e_L 148 (0, ei_getf eft elay 12 97 151, 0, 0)) (e_T 151 (e_L 151 (0, ei_push (0, 3) 152, 0, 0)) (e_L 152 (0, ei_ast elay false 153, 0, 0)))) (e_T 153 (e_L 153 (0, ei_load 0 2 154, 0, 0)) (e_T 154 (e_L 154 (0, ei_getf eft elay 12 0 157, 0, 0)) (e_L 157 (0, ei_load 0 2 158, 0, 0)))))) (e_T 168 (e_T 162 (e_T 158 (e_L 158 (0, ei_getf eft elay 12 97 161, 0, 0)) (e_T 161 (e_L 161 (0, ei_push (0, 4) 162, 0, 0)) (e_L 162 (0, ei_bin eF_add 163, 0, 0)))) (e_T 163 (e_L 163 (0, ei_load 4 0 165, 0, 0)) (e_T 165 (e_L 165 (0, ei_push (0, 6000) 168, 0, 0)) (e_L 168 (0, ei_if2 5 177 171, 0, 0))))) (e_T 177 (e_T 171 (e_L 171 (0, ei_push (0, 6001) 174, 0, 0)) (e_T 174 (e_L 174 (0, ei_goto 186, 0, 0)) (e_L 177 (0, ei_load 0 2 178, 0, 0)))) (e_T 178 (e_L 178 (0, ei_getf eft elay 12 0 181, 0, 0)) (e_T 181 (e_L 181 (0, ei_push (0, 0) 182, 0, 0)) (e_L 182 (0, ei_ald elay false 183, 0, 0)))))))
set_option maxRecDepth 20000 in
set_option maxHeartbeats 4000000 in
theorem te_376_23_ok : ∀ pc, e_EOq eft cls elay eI n_376 pc (te_376_23 pc) :=
  (e_Tok2
  (e_Tok2
  (e_Tok2
  (e_Tok2
  (e_Lok (e_st (I := eI) (er_istore (i := 4) (x_dk dn_376_0_0_ok 23 rfl) (by decide +kernel)) nx_stor))
  (e_Tok2
  (e_Lok (ld_iload_4 (x_dk dn_376_0_0_ok 24 rfl)))
  (e_Lok (e_st (I := eI) (er_ifle (off := 279) (tg := 419) (x_dk dn_376_0_1_ok 0 rfl) (by decide)) nx_if1))))
  (e_Tok2
  (e_Lok (ld_aload_n_0 (x_dk dn_376_0_1_ok 1 rfl)))
  (e_Tok2
  (e_Lok (lk_12_8g ho_376 (x_dk dn_376_0_1_ok 2 rfl)))
  (e_Lok (ld_aload_n_0 (x_dk dn_376_0_1_ok 3 rfl))))))
  (e_Tok2
  (e_Tok2
  (e_Lok (lk_12_651g ho_376 (x_dk dn_376_0_1_ok 4 rfl)))
  (e_Tok2
  (e_Lok (ps_iconst_3 (x_dk dn_376_0_1_ok 5 rfl)))
  (e_Lok (sm_iastore (x_dk dn_376_0_1_ok 6 rfl)))))
  (e_Tok2
  (e_Lok (ld_aload_n_0 (x_dk dn_376_0_1_ok 7 rfl)))
  (e_Tok2
  (e_Lok (lk_12_8g ho_376 (x_dk dn_376_0_1_ok 8 rfl)))
  (e_Lok (ld_aload_n_0 (x_dk dn_376_0_1_ok 9 rfl)))))))
  (e_Tok2
  (e_Tok2
  (e_Tok2
  (e_Lok (lk_12_651g ho_376 (x_dk dn_376_0_1_ok 10 rfl)))
  (e_Tok2
  (e_Lok (ps_iconst_4 (x_dk dn_376_0_1_ok 11 rfl)))
  (e_Lok (sm_iadd (x_dk dn_376_0_1_ok 12 rfl)))))
  (e_Tok2
  (e_Lok (ld_iload_4 (x_dk dn_376_0_1_ok 13 rfl)))
  (e_Tok2
  (e_Lok (ps_sipush_6000 (x_dk dn_376_0_1_ok 14 rfl)))
  (e_Lok (e_st (I := eI) (er_icmple (off := 9) (tg := 177) (x_dk dn_376_0_1_ok 15 rfl) (by decide)) nx_if2)))))
  (e_Tok2
  (e_Tok2
  (e_Lok (ps_sipush_6001 (x_dk dn_376_0_1_ok 16 rfl)))
  (e_Tok2
  (e_Lok (e_st (I := eI) (er_goto (off := 12) (tg := 186) (x_dk dn_376_0_1_ok 17 rfl) (by decide)) nx_goto))
  (e_Lok (ld_aload_n_0 (x_dk dn_376_0_1_ok 18 rfl)))))
  (e_Tok2
  (e_Lok (lk_12_8g ho_376 (x_dk dn_376_0_1_ok 19 rfl)))
  (e_Tok2
  (e_Lok (ps_iconst_0 (x_dk dn_376_0_1_ok 20 rfl)))
  (e_Lok (sm_iaload (x_dk dn_376_0_1_ok 21 rfl))))))))
def te_376_47 : Nat → eE := (e_T 203 (e_T 189 (e_T 186 (e_T 183 (e_L 183 (0, ei_load 4 0 185, 0, 0)) (e_T 185 (e_L 185 (0, ei_bin eF_add 186, 0, 0)) (e_L 186 (0, ei_ast elay false 187, 0, 0)))) (e_T 187 (e_L 187 (0, ei_load 0 2 188, 0, 0)) (e_T 188 (e_L 188 (0, ei_push (0, 1) 189, 0, 0)) (e_L 189 (0, ei_putf eft elay 12 100 1 192, 0, 0))))) (e_T 196 (e_T 192 (e_L 192 (0, ei_goto 419, 0, 0)) (e_T 195 (e_L 195 (0, ei_load 0 2 196, 0, 0)) (e_L 196 (2, e_nof, 364, 1)))) (e_T 199 (e_L 199 (0, ei_if1 1 419 202, 0, 0)) (e_T 202 (e_L 202 (0, ei_load 0 2 203, 0, 0)) (e_L 203 (0, ei_getf eft elay 12 0 206, 0, 0)))))) (e_T 213 (e_T 210 (e_T 206 (e_L 206 (0, ei_load 0 2 207, 0, 0)) (e_T 207 (e_L 207 (0, ei_getf eft elay 12 97 210, 0, 0)) (e_L 210 (0, ei_push (0, 4) 211, 0, 0)))) (e_T 211 (e_L 211 (0, ei_ast elay false 212, 0, 0)) (e_T 212 (e_L 212 (0, ei_load 0 2 213, 0, 0)) (e_L 213 (0, ei_push (0, 1) 214, 0, 0))))) (e_T 218 (e_T 214 (e_L 214 (0, ei_putf eft elay 12 100 1 217, 0, 0)) (e_T 217 (e_L 217 (0, ei_load 0 2 218, 0, 0)) (e_L 218 (0, ei_load 2 0 219, 0, 0)))) (e_T 219 (e_L 219 (2, e_nof, 365, 2)) (e_T 222 (e_L 222 (1, e_nof, 0, 0)) (e_L 223 (0, ei_load 0 2 224, 0, 0)))))))
set_option maxRecDepth 20000 in
set_option maxHeartbeats 4000000 in
theorem te_376_47_ok : ∀ pc, e_EOq eft cls elay eI n_376 pc (te_376_47 pc) :=
  (e_Tok2
  (e_Tok2
  (e_Tok2
  (e_Tok2
  (e_Lok (ld_iload_4 (x_dk dn_376_0_1_ok 22 rfl)))
  (e_Tok2
  (e_Lok (sm_iadd (x_dk dn_376_0_1_ok 23 rfl)))
  (e_Lok (sm_iastore (x_dk dn_376_0_1_ok 24 rfl)))))
  (e_Tok2
  (e_Lok (ld_aload_n_0 (x_dk dn_376_0_2_ok 0 rfl)))
  (e_Tok2
  (e_Lok (ps_iconst_1 (x_dk dn_376_0_2_ok 1 rfl)))
  (e_Lok (lk_12_669p ho_376 (x_dk dn_376_0_2_ok 2 rfl))))))
  (e_Tok2
  (e_Tok2
  (e_Lok (e_st (I := eI) (er_goto (off := 227) (tg := 419) (x_dk dn_376_0_2_ok 3 rfl) (by decide)) nx_goto))
  (e_Tok2
  (e_Lok (ld_aload_n_0 (x_dk dn_376_0_2_ok 4 rfl)))
  (e_Lok (lk_12_714 ho_376 (x_dk dn_376_0_2_ok 5 rfl)))))
  (e_Tok2
  (e_Lok (e_st (I := eI) (er_ifne (off := 220) (tg := 419) (x_dk dn_376_0_2_ok 6 rfl) (by decide)) nx_if1))
  (e_Tok2
  (e_Lok (ld_aload_n_0 (x_dk dn_376_0_2_ok 7 rfl)))
  (e_Lok (lk_12_8g ho_376 (x_dk dn_376_0_2_ok 8 rfl)))))))
  (e_Tok2
  (e_Tok2
  (e_Tok2
  (e_Lok (ld_aload_n_0 (x_dk dn_376_0_2_ok 9 rfl)))
  (e_Tok2
  (e_Lok (lk_12_651g ho_376 (x_dk dn_376_0_2_ok 10 rfl)))
  (e_Lok (ps_iconst_4 (x_dk dn_376_0_2_ok 11 rfl)))))
  (e_Tok2
  (e_Lok (sm_iastore (x_dk dn_376_0_2_ok 12 rfl)))
  (e_Tok2
  (e_Lok (ld_aload_n_0 (x_dk dn_376_0_2_ok 13 rfl)))
  (e_Lok (ps_iconst_1 (x_dk dn_376_0_2_ok 14 rfl))))))
  (e_Tok2
  (e_Tok2
  (e_Lok (lk_12_669p ho_376 (x_dk dn_376_0_2_ok 15 rfl)))
  (e_Tok2
  (e_Lok (ld_aload_n_0 (x_dk dn_376_0_2_ok 16 rfl)))
  (e_Lok (ld_iload_n_2 (x_dk dn_376_0_2_ok 17 rfl)))))
  (e_Tok2
  (e_Lok (lk_12_678 ho_376 (x_dk dn_376_0_2_ok 18 rfl)))
  (e_Tok2
  (e_Lok (e_rt (I := eI) (k := 0) ⟨(x_dk dn_376_0_2_ok 19 rfl), rfl⟩))
  (e_Lok (ld_aload_n_0 (x_dk dn_376_0_2_ok 20 rfl))))))))
def te_376_71 : Nat → eE := (e_T 245 (e_T 233 (e_T 228 (e_T 224 (e_L 224 (0, ei_load 0 2 225, 0, 0)) (e_T 225 (e_L 225 (2, e_nof, 364, 1)) (e_L 228 (2, e_nof, 369, 2)))) (e_T 231 (e_L 231 (1, e_nof, 0, 0)) (e_T 232 (e_L 232 (0, ei_load 0 2 233, 0, 0)) (e_L 233 (0, ei_push (0, 1) 234, 0, 0))))) (e_T 238 (e_T 234 (e_L 234 (0, ei_load 0 2 235, 0, 0)) (e_T 235 (e_L 235 (0, ei_getf eft elay 12 96 238, 0, 0)) (e_L 238 (0, ei_load 0 2 239, 0, 0)))) (e_T 239 (e_L 239 (2, e_nof, 364, 1)) (e_T 242 (e_L 242 (2, e_nof, 319, 4)) (e_L 245 (0, ei_goto 419, 0, 0)))))) (e_T 255 (e_T 250 (e_T 248 (e_L 248 (0, ei_load 0 2 249, 0, 0)) (e_T 249 (e_L 249 (0, ei_load 2 0 250, 0, 0)) (e_L 250 (0, ei_push (0, 0) 251, 0, 0)))) (e_T 251 (e_L 251 (2, e_nof, 367, 3)) (e_T 254 (e_L 254 (1, e_nof, 0, 0)) (e_L 255 (0, ei_load 0 2 256, 0, 0))))) (e_T 260 (e_T 256 (e_L 256 (0, ei_load 0 2 257, 0, 0)) (e_T 257 (e_L 257 (0, ei_getf eft elay 12 67 260, 0, 0)) (e_L 260 (0, ei_push (0, 10000) 263, 0, 0)))) (e_T 263 (e_L 263 (0, ei_load 0 2 264, 0, 0)) (e_T 264 (e_L 264 (0, ei_getf eft elay 12 98 267, 0, 0)) (e_L 267 (0, ei_bin eF_mul 268, 0, 0)))))))
set_option maxRecDepth 20000 in
set_option maxHeartbeats 4000000 in
theorem te_376_71_ok : ∀ pc, e_EOq eft cls elay eI n_376 pc (te_376_71 pc) :=
  (e_Tok2
  (e_Tok2
  (e_Tok2
  (e_Tok2
  (e_Lok (ld_aload_n_0 (x_dk dn_376_0_2_ok 21 rfl)))
  (e_Tok2
  (e_Lok (lk_12_714 ho_376 (x_dk dn_376_0_2_ok 22 rfl)))
  (e_Lok (lk_12_672 ho_376 (x_dk dn_376_0_2_ok 23 rfl)))))
  (e_Tok2
  (e_Lok (e_rt (I := eI) (k := 0) ⟨(x_dk dn_376_0_2_ok 24 rfl), rfl⟩))
  (e_Tok2
  (e_Lok (ld_aload_n_0 (x_dk dn_376_0_3_ok 0 rfl)))
  (e_Lok (ps_iconst_1 (x_dk dn_376_0_3_ok 1 rfl))))))
  (e_Tok2
  (e_Tok2
  (e_Lok (ld_aload_n_0 (x_dk dn_376_0_3_ok 2 rfl)))
  (e_Tok2
  (e_Lok (lk_12_660g ho_376 (x_dk dn_376_0_3_ok 3 rfl)))
  (e_Lok (ld_aload_n_0 (x_dk dn_376_0_3_ok 4 rfl)))))
  (e_Tok2
  (e_Lok (lk_12_714 ho_376 (x_dk dn_376_0_3_ok 5 rfl)))
  (e_Tok2
  (e_Lok (lk_12_693 ho_376 (x_dk dn_376_0_3_ok 6 rfl)))
  (e_Lok (e_st (I := eI) (er_goto (off := 174) (tg := 419) (x_dk dn_376_0_3_ok 7 rfl) (by decide)) nx_goto))))))
  (e_Tok2
  (e_Tok2
  (e_Tok2
  (e_Lok (ld_aload_n_0 (x_dk dn_376_0_3_ok 8 rfl)))
  (e_Tok2
  (e_Lok (ld_iload_n_2 (x_dk dn_376_0_3_ok 9 rfl)))
  (e_Lok (ps_iconst_0 (x_dk dn_376_0_3_ok 10 rfl)))))
  (e_Tok2
  (e_Lok (lk_12_681 ho_376 (x_dk dn_376_0_3_ok 11 rfl)))
  (e_Tok2
  (e_Lok (e_rt (I := eI) (k := 0) ⟨(x_dk dn_376_0_3_ok 12 rfl), rfl⟩))
  (e_Lok (ld_aload_n_0 (x_dk dn_376_0_3_ok 13 rfl))))))
  (e_Tok2
  (e_Tok2
  (e_Lok (ld_aload_n_0 (x_dk dn_376_0_3_ok 14 rfl)))
  (e_Tok2
  (e_Lok (lk_12_177g ho_376 (x_dk dn_376_0_3_ok 15 rfl)))
  (e_Lok (ps_sipush_10000 (x_dk dn_376_0_3_ok 16 rfl)))))
  (e_Tok2
  (e_Lok (ld_aload_n_0 (x_dk dn_376_0_3_ok 17 rfl)))
  (e_Tok2
  (e_Lok (lk_12_663g ho_376 (x_dk dn_376_0_3_ok 18 rfl)))
  (e_Lok (sm_imul (x_dk dn_376_0_3_ok 19 rfl))))))))
def te_376_95 : Nat → eE := (e_T 282 (e_T 272 (e_T 269 (e_T 268 (e_L 268 (0, ei_load 3 0 269, 0, 0)) (e_L 269 (0, ei_bin eF_add 270, 0, 0))) (e_T 270 (e_L 270 (0, ei_ald elay false 271, 0, 0)) (e_T 271 (e_L 271 (0, ei_push (0, 2) 272, 0, 0)) (e_L 272 (0, ei_push (0, 0) 273, 0, 0))))) (e_T 277 (e_T 273 (e_L 273 (2, e_nof, 371, 4)) (e_T 276 (e_L 276 (1, e_nof, 0, 0)) (e_L 277 (0, ei_load 0 2 278, 0, 0)))) (e_T 278 (e_L 278 (0, ei_load 0 2 279, 0, 0)) (e_T 279 (e_L 279 (0, ei_getf eft elay 12 67 282, 0, 0)) (e_L 282 (0, ei_push (0, 10000) 285, 0, 0)))))) (e_T 292 (e_T 289 (e_T 285 (e_L 285 (0, ei_load 0 2 286, 0, 0)) (e_T 286 (e_L 286 (0, ei_getf eft elay 12 98 289, 0, 0)) (e_L 289 (0, ei_bin eF_mul 290, 0, 0)))) (e_T 290 (e_L 290 (0, ei_load 3 0 291, 0, 0)) (e_T 291 (e_L 291 (0, ei_bin eF_add 292, 0, 0)) (e_L 292 (0, ei_ald elay false 293, 0, 0))))) (e_T 295 (e_T 293 (e_L 293 (0, ei_push (0, 3) 294, 0, 0)) (e_T 294 (e_L 294 (0, ei_load 2 0 295, 0, 0)) (e_L 295 (2, e_nof, 371, 4)))) (e_T 298 (e_L 298 (1, e_nof, 0, 0)) (e_T 299 (e_L 299 (0, ei_load 0 2 300, 0, 0)) (e_L 300 (0, ei_load 0 2 301, 0, 0)))))))
set_option maxRecDepth 20000 in
set_option maxHeartbeats 4000000 in
theorem te_376_95_ok : ∀ pc, e_EOq eft cls elay eI n_376 pc (te_376_95 pc) :=
  (e_Tok2
  (e_Tok2
  (e_Tok2
  (e_Tok2
  (e_Lok (ld_iload_n_3 (x_dk dn_376_0_3_ok 20 rfl)))
  (e_Lok (sm_iadd (x_dk dn_376_0_3_ok 21 rfl))))
  (e_Tok2
  (e_Lok (sm_iaload (x_dk dn_376_0_3_ok 22 rfl)))
  (e_Tok2
  (e_Lok (ps_iconst_2 (x_dk dn_376_0_3_ok 23 rfl)))
  (e_Lok (ps_iconst_0 (x_dk dn_376_0_3_ok 24 rfl))))))
  (e_Tok2
  (e_Tok2
  (e_Lok (lk_12_684 ho_376 (x_dk dn_376_1_0_ok 0 rfl)))
  (e_Tok2
  (e_Lok (e_rt (I := eI) (k := 0) ⟨(x_dk dn_376_1_0_ok 1 rfl), rfl⟩))
  (e_Lok (ld_aload_n_0 (x_dk dn_376_1_0_ok 2 rfl)))))
  (e_Tok2
  (e_Lok (ld_aload_n_0 (x_dk dn_376_1_0_ok 3 rfl)))
  (e_Tok2
  (e_Lok (lk_12_177g ho_376 (x_dk dn_376_1_0_ok 4 rfl)))
  (e_Lok (ps_sipush_10000 (x_dk dn_376_1_0_ok 5 rfl)))))))
  (e_Tok2
  (e_Tok2
  (e_Tok2
  (e_Lok (ld_aload_n_0 (x_dk dn_376_1_0_ok 6 rfl)))
  (e_Tok2
  (e_Lok (lk_12_663g ho_376 (x_dk dn_376_1_0_ok 7 rfl)))
  (e_Lok (sm_imul (x_dk dn_376_1_0_ok 8 rfl)))))
  (e_Tok2
  (e_Lok (ld_iload_n_3 (x_dk dn_376_1_0_ok 9 rfl)))
  (e_Tok2
  (e_Lok (sm_iadd (x_dk dn_376_1_0_ok 10 rfl)))
  (e_Lok (sm_iaload (x_dk dn_376_1_0_ok 11 rfl))))))
  (e_Tok2
  (e_Tok2
  (e_Lok (ps_iconst_3 (x_dk dn_376_1_0_ok 12 rfl)))
  (e_Tok2
  (e_Lok (ld_iload_n_2 (x_dk dn_376_1_0_ok 13 rfl)))
  (e_Lok (lk_12_684 ho_376 (x_dk dn_376_1_0_ok 14 rfl)))))
  (e_Tok2
  (e_Lok (e_rt (I := eI) (k := 0) ⟨(x_dk dn_376_1_0_ok 15 rfl), rfl⟩))
  (e_Tok2
  (e_Lok (ld_aload_n_0 (x_dk dn_376_1_0_ok 16 rfl)))
  (e_Lok (ld_aload_n_0 (x_dk dn_376_1_0_ok 17 rfl))))))))
def te_376_118 : Nat → eE := (e_T 320 (e_T 312 (e_T 307 (e_T 301 (e_L 301 (2, e_nof, 364, 1)) (e_T 304 (e_L 304 (0, ei_if1 1 311 307, 0, 0)) (e_L 307 (0, ei_load 2 0 308, 0, 0)))) (e_T 308 (e_L 308 (0, ei_goto 314, 0, 0)) (e_T 311 (e_L 311 (0, ei_load 3 0 312, 0, 0)) (e_L 312 (0, ei_push (0, 1) 313, 0, 0))))) (e_T 317 (e_T 313 (e_L 313 (0, ei_bin eF_add 314, 0, 0)) (e_T 314 (e_L 314 (2, e_nof, 365, 2)) (e_L 317 (1, e_nof, 0, 0)))) (e_T 318 (e_L 318 (0, ei_load 0 2 319, 0, 0)) (e_T 319 (e_L 319 (0, ei_load 2 0 320, 0, 0)) (e_L 320 (2, e_nof, 365, 2)))))) (e_T 332 (e_T 327 (e_T 323 (e_L 323 (1, e_nof, 0, 0)) (e_T 324 (e_L 324 (0, ei_push (0, 900) 327, 0, 0)) (e_L 327 (0, ei_load 0 2 328, 0, 0)))) (e_T 328 (e_L 328 (0, ei_getf eft elay 12 98 331, 0, 0)) (e_T 331 (e_L 331 (0, ei_bin eF_mul 332, 0, 0)) (e_L 332 (0, ei_load 2 0 333, 0, 0))))) (e_T 336 (e_T 333 (e_L 333 (0, ei_bin eF_add 334, 0, 0)) (e_T 334 (e_L 334 (0, ei_stor 5 0 336, 0, 0)) (e_L 336 (0, ei_load 0 2 337, 0, 0)))) (e_T 337 (e_L 337 (0, ei_getf eft elay 12 70 340, 0, 0)) (e_T 340 (e_L 340 (0, ei_load 5 0 342, 0, 0)) (e_L 342 (0, ei_ald elay false 343, 0, 0)))))))
set_option maxRecDepth 20000 in
set_option maxHeartbeats 4000000 in
theorem te_376_118_ok : ∀ pc, e_EOq eft cls elay eI n_376 pc (te_376_118 pc) :=
  (e_Tok2
  (e_Tok2
  (e_Tok2
  (e_Tok2
  (e_Lok (lk_12_714 ho_376 (x_dk dn_376_1_0_ok 18 rfl)))
  (e_Tok2
  (e_Lok (e_st (I := eI) (er_ifne (off := 7) (tg := 311) (x_dk dn_376_1_0_ok 19 rfl) (by decide)) nx_if1))
  (e_Lok (ld_iload_n_2 (x_dk dn_376_1_0_ok 20 rfl)))))
  (e_Tok2
  (e_Lok (e_st (I := eI) (er_goto (off := 6) (tg := 314) (x_dk dn_376_1_0_ok 21 rfl) (by decide)) nx_goto))
  (e_Tok2
  (e_Lok (ld_iload_n_3 (x_dk dn_376_1_0_ok 22 rfl)))
  (e_Lok (ps_iconst_1 (x_dk dn_376_1_0_ok 23 rfl))))))
  (e_Tok2
  (e_Tok2
  (e_Lok (sm_iadd (x_dk dn_376_1_0_ok 24 rfl)))
  (e_Tok2
  (e_Lok (lk_12_678 ho_376 (x_dk dn_376_1_1_ok 0 rfl)))
  (e_Lok (e_rt (I := eI) (k := 0) ⟨(x_dk dn_376_1_1_ok 1 rfl), rfl⟩))))
  (e_Tok2
  (e_Lok (ld_aload_n_0 (x_dk dn_376_1_1_ok 2 rfl)))
  (e_Tok2
  (e_Lok (ld_iload_n_2 (x_dk dn_376_1_1_ok 3 rfl)))
  (e_Lok (lk_12_678 ho_376 (x_dk dn_376_1_1_ok 4 rfl)))))))
  (e_Tok2
  (e_Tok2
  (e_Tok2
  (e_Lok (e_rt (I := eI) (k := 0) ⟨(x_dk dn_376_1_1_ok 5 rfl), rfl⟩))
  (e_Tok2
  (e_Lok (ps_sipush_900 (x_dk dn_376_1_1_ok 6 rfl)))
  (e_Lok (ld_aload_n_0 (x_dk dn_376_1_1_ok 7 rfl)))))
  (e_Tok2
  (e_Lok (lk_12_663g ho_376 (x_dk dn_376_1_1_ok 8 rfl)))
  (e_Tok2
  (e_Lok (sm_imul (x_dk dn_376_1_1_ok 9 rfl)))
  (e_Lok (ld_iload_n_2 (x_dk dn_376_1_1_ok 10 rfl))))))
  (e_Tok2
  (e_Tok2
  (e_Lok (sm_iadd (x_dk dn_376_1_1_ok 11 rfl)))
  (e_Tok2
  (e_Lok (e_st (I := eI) (er_istore (i := 5) (x_dk dn_376_1_1_ok 12 rfl) (by decide +kernel)) nx_stor))
  (e_Lok (ld_aload_n_0 (x_dk dn_376_1_1_ok 13 rfl)))))
  (e_Tok2
  (e_Lok (lk_12_186g ho_376 (x_dk dn_376_1_1_ok 14 rfl)))
  (e_Tok2
  (e_Lok (ld_iload_5 (x_dk dn_376_1_1_ok 15 rfl)))
  (e_Lok (sm_iaload (x_dk dn_376_1_1_ok 16 rfl))))))))
def te_376_142 : Nat → eE := (e_T 363 (e_T 352 (e_T 347 (e_T 343 (e_L 343 (0, ei_if1 2 352 346, 0, 0)) (e_T 346 (e_L 346 (0, ei_load 0 2 347, 0, 0)) (e_L 347 (0, ei_push (0, 0) 348, 0, 0)))) (e_T 348 (e_L 348 (0, ei_push (0, 0) 349, 0, 0)) (e_T 349 (e_L 349 (2, e_nof, 370, 3)) (e_L 352 (0, ei_load 0 2 353, 0, 0))))) (e_T 357 (e_T 353 (e_L 353 (0, ei_load 0 2 354, 0, 0)) (e_T 354 (e_L 354 (0, ei_getf eft elay 12 70 357, 0, 0)) (e_L 357 (0, ei_load 5 0 359, 0, 0)))) (e_T 359 (e_L 359 (0, ei_ald elay false 360, 0, 0)) (e_T 360 (e_L 360 (0, ei_if1 2 373 363, 0, 0)) (e_L 363 (0, ei_load 0 2 364, 0, 0)))))) (e_T 374 (e_T 369 (e_T 364 (e_L 364 (0, ei_getf eft elay 12 70 367, 0, 0)) (e_T 367 (e_L 367 (0, ei_load 5 0 369, 0, 0)) (e_L 369 (0, ei_ald elay false 370, 0, 0)))) (e_T 370 (e_L 370 (0, ei_goto 380, 0, 0)) (e_T 373 (e_L 373 (0, ei_load 0 2 374, 0, 0)) (e_L 374 (0, ei_getf eft elay 12 71 377, 0, 0))))) (e_T 380 (e_T 377 (e_L 377 (0, ei_load 5 0 379, 0, 0)) (e_T 379 (e_L 379 (0, ei_ald elay false 380, 0, 0)) (e_L 380 (2, e_nof, 365, 2)))) (e_T 383 (e_L 383 (1, e_nof, 0, 0)) (e_T 384 (e_L 384 (0, ei_load 0 2 385, 0, 0)) (e_L 385 (0, ei_push (0, 900) 388, 0, 0)))))))
set_option maxRecDepth 20000 in
set_option maxHeartbeats 4000000 in
theorem te_376_142_ok : ∀ pc, e_EOq eft cls elay eI n_376 pc (te_376_142 pc) :=
  (e_Tok2
  (e_Tok2
  (e_Tok2
  (e_Tok2
  (e_Lok (e_st (I := eI) (er_iflt (off := 9) (tg := 352) (x_dk dn_376_1_1_ok 17 rfl) (by decide)) nx_if1))
  (e_Tok2
  (e_Lok (ld_aload_n_0 (x_dk dn_376_1_1_ok 18 rfl)))
  (e_Lok (ps_iconst_0 (x_dk dn_376_1_1_ok 19 rfl)))))
  (e_Tok2
  (e_Lok (ps_iconst_0 (x_dk dn_376_1_1_ok 20 rfl)))
  (e_Tok2
  (e_Lok (lk_12_690 ho_376 (x_dk dn_376_1_1_ok 21 rfl)))
  (e_Lok (ld_aload_n_0 (x_dk dn_376_1_1_ok 22 rfl))))))
  (e_Tok2
  (e_Tok2
  (e_Lok (ld_aload_n_0 (x_dk dn_376_1_1_ok 23 rfl)))
  (e_Tok2
  (e_Lok (lk_12_186g ho_376 (x_dk dn_376_1_1_ok 24 rfl)))
  (e_Lok (ld_iload_5 (x_dk dn_376_1_2_ok 0 rfl)))))
  (e_Tok2
  (e_Lok (sm_iaload (x_dk dn_376_1_2_ok 1 rfl)))
  (e_Tok2
  (e_Lok (e_st (I := eI) (er_iflt (off := 13) (tg := 373) (x_dk dn_376_1_2_ok 2 rfl) (by decide)) nx_if1))
  (e_Lok (ld_aload_n_0 (x_dk dn_376_1_2_ok 3 rfl)))))))
  (e_Tok2
  (e_Tok2
  (e_Tok2
  (e_Lok (lk_12_186g ho_376 (x_dk dn_376_1_2_ok 4 rfl)))
  (e_Tok2
  (e_Lok (ld_iload_5 (x_dk dn_376_1_2_ok 5 rfl)))
  (e_Lok (sm_iaload (x_dk dn_376_1_2_ok 6 rfl)))))
  (e_Tok2
  (e_Lok (e_st (I := eI) (er_goto (off := 10) (tg := 380) (x_dk dn_376_1_2_ok 7 rfl) (by decide)) nx_goto))
  (e_Tok2
  (e_Lok (ld_aload_n_0 (x_dk dn_376_1_2_ok 8 rfl)))
  (e_Lok (lk_12_189g ho_376 (x_dk dn_376_1_2_ok 9 rfl))))))
  (e_Tok2
  (e_Tok2
  (e_Lok (ld_iload_5 (x_dk dn_376_1_2_ok 10 rfl)))
  (e_Tok2
  (e_Lok (sm_iaload (x_dk dn_376_1_2_ok 11 rfl)))
  (e_Lok (lk_12_678 ho_376 (x_dk dn_376_1_2_ok 12 rfl)))))
  (e_Tok2
  (e_Lok (e_rt (I := eI) (k := 0) ⟨(x_dk dn_376_1_2_ok 13 rfl), rfl⟩))
  (e_Tok2
  (e_Lok (ld_aload_n_0 (x_dk dn_376_1_2_ok 14 rfl)))
  (e_Lok (ps_sipush_900 (x_dk dn_376_1_2_ok 15 rfl))))))))
def te_376_166 : Nat → eE := (e_T 405 (e_T 395 (e_T 392 (e_T 388 (e_L 388 (0, ei_load 0 2 389, 0, 0)) (e_T 389 (e_L 389 (0, ei_getf eft elay 12 98 392, 0, 0)) (e_L 392 (0, ei_bin eF_mul 393, 0, 0)))) (e_T 393 (e_L 393 (0, ei_load 2 0 394, 0, 0)) (e_T 394 (e_L 394 (0, ei_bin eF_add 395, 0, 0)) (e_L 395 (2, e_nof, 377, 2))))) (e_T 400 (e_T 398 (e_L 398 (1, e_nof, 0, 0)) (e_T 399 (e_L 399 (0, ei_load 0 2 400, 0, 0)) (e_L 400 (0, ei_load 1 0 401, 0, 0)))) (e_T 401 (e_L 401 (0, ei_load 2 0 402, 0, 0)) (e_T 402 (e_L 402 (2, e_nof, 378, 3)) (e_L 405 (0, ei_stor 6 0 407, 0, 0)))))) (e_T 418 (e_T 412 (e_T 407 (e_L 407 (0, ei_load 6 0 409, 0, 0)) (e_T 409 (e_L 409 (0, ei_if1 0 419 412, 0, 0)) (e_L 412 (0, ei_load 0 2 413, 0, 0)))) (e_T 413 (e_L 413 (0, ei_load 6 0 415, 0, 0)) (e_T 415 (e_L 415 (2, e_nof, 369, 2)) (e_L 418 (1, e_nof, 0, 0))))) (e_T 421 (e_T 419 (e_L 419 (0, ei_load 0 2 420, 0, 0)) (e_T 420 (e_L 420 (0, ei_load 3 0 421, 0, 0)) (e_L 421 (0, ei_push (0, 1) 422, 0, 0)))) (e_T 422 (e_L 422 (0, ei_bin eF_add 423, 0, 0)) (e_T 423 (e_L 423 (2, e_nof, 365, 2)) (e_L 426 (1, e_nof, 0, 0)))))))
set_option maxRecDepth 20000 in
set_option maxHeartbeats 4000000 in
theorem te_376_166_ok : ∀ pc, e_EOq eft cls elay eI n_376 pc (te_376_166 pc) :=
  (e_Tok2
  (e_Tok2
  (e_Tok2
  (e_Tok2
  (e_Lok (ld_aload_n_0 (x_dk dn_376_1_2_ok 16 rfl)))
  (e_Tok2
  (e_Lok (lk_12_663g ho_376 (x_dk dn_376_1_2_ok 17 rfl)))
  (e_Lok (sm_imul (x_dk dn_376_1_2_ok 18 rfl)))))
  (e_Tok2
  (e_Lok (ld_iload_n_2 (x_dk dn_376_1_2_ok 19 rfl)))
  (e_Tok2
  (e_Lok (sm_iadd (x_dk dn_376_1_2_ok 20 rfl)))
  (e_Lok (lk_12_723 ho_376 (x_dk dn_376_1_2_ok 21 rfl))))))
  (e_Tok2
  (e_Tok2
  (e_Lok (e_rt (I := eI) (k := 0) ⟨(x_dk dn_376_1_2_ok 22 rfl), rfl⟩))
  (e_Tok2
  (e_Lok (ld_aload_n_0 (x_dk dn_376_1_2_ok 23 rfl)))
  (e_Lok (ld_iload_n_1 (x_dk dn_376_1_2_ok 24 rfl)))))
  (e_Tok2
  (e_Lok (ld_iload_n_2 (x_dk dn_376_1_3_ok 0 rfl)))
  (e_Tok2
  (e_Lok (lk_12_726 ho_376 (x_dk dn_376_1_3_ok 1 rfl)))
  (e_Lok (e_st (I := eI) (er_istore (i := 6) (x_dk dn_376_1_3_ok 2 rfl) (by decide +kernel)) nx_stor))))))
  (e_Tok2
  (e_Tok2
  (e_Tok2
  (e_Lok (ld_iload_6 (x_dk dn_376_1_3_ok 3 rfl)))
  (e_Tok2
  (e_Lok (e_st (I := eI) (er_ifeq (off := 10) (tg := 419) (x_dk dn_376_1_3_ok 4 rfl) (by decide)) nx_if1))
  (e_Lok (ld_aload_n_0 (x_dk dn_376_1_3_ok 5 rfl)))))
  (e_Tok2
  (e_Lok (ld_iload_6 (x_dk dn_376_1_3_ok 6 rfl)))
  (e_Tok2
  (e_Lok (lk_12_672 ho_376 (x_dk dn_376_1_3_ok 7 rfl)))
  (e_Lok (e_rt (I := eI) (k := 0) ⟨(x_dk dn_376_1_3_ok 8 rfl), rfl⟩)))))
  (e_Tok2
  (e_Tok2
  (e_Lok (ld_aload_n_0 (x_dk dn_376_1_3_ok 9 rfl)))
  (e_Tok2
  (e_Lok (ld_iload_n_3 (x_dk dn_376_1_3_ok 10 rfl)))
  (e_Lok (ps_iconst_1 (x_dk dn_376_1_3_ok 11 rfl)))))
  (e_Tok2
  (e_Lok (sm_iadd (x_dk dn_376_1_3_ok 12 rfl)))
  (e_Tok2
  (e_Lok (lk_12_678 ho_376 (x_dk dn_376_1_3_ok 13 rfl)))
  (e_Lok (e_rt (I := eI) (k := 0) ⟨(x_dk dn_376_1_3_ok 14 rfl), rfl⟩)))))))
def te_376 : Nat → eE := (e_T 267 (e_T 182 (e_T 133 te_376_0 te_376_23) (e_T 223 te_376_47 te_376_71)) (e_T 342 (e_T 300 te_376_95 te_376_118) (e_T 385 te_376_142 te_376_166)))
theorem te_376_ok : ∀ pc, e_EOq eft cls elay eI n_376 pc (te_376 pc) := (e_Tok2 ((e_Tok2 ((e_Tok2 (te_376_0_ok) (te_376_23_ok))) ((e_Tok2 (te_376_47_ok) (te_376_71_ok))))) ((e_Tok2 ((e_Tok2 (te_376_95_ok) (te_376_118_ok))) ((e_Tok2 (te_376_142_ok) (te_376_166_ok))))))
theorem ho_377 : (xm_y n_377).cls = "RobotCellHouseModel" := rfl
def dn_377_0_0 : List (Nat × Instr × Nat) := [(0, .aload_n 0, 1), (1, .getfield 8, 3), (4, .aload_n 0, 1), (5, .getfield 651, 3), (8, .bipush 13, 2), (10, .iadd, 1), (11, .dup2, 1), (12, .iaload, 1), (13, .iconst 1, 1), (14, .isub, 1), (15, .iastore, 1), (16, .aload_n 0, 1), (17, .getfield 651, 3), (20, .bipush 60, 2), (22, .iadd, 1), (23, .iconst 2, 1), (24, .aload_n 0, 1), (25, .getfield 8, 3), (28, .aload_n 0, 1), (29, .getfield 651, 3), (32, .bipush 13, 2), (34, .iadd, 1), (35, .iaload, 1), (36, .imul, 1), (37, .iadd, 1)]
set_option maxRecDepth 20000 in
theorem dn_377_0_0_ok : dn_377_0_0.all (fun q => decide (decode (xm_b n_377) q.1 = .ok (q.2.1, q.2.2))) = true := xa_g_ok (by decide +kernel)
def dn_377_0_1 : List (Nat × Instr × Nat) := [(38, .istore_n 2, 1), (39, .aload_n 0, 1), (40, .getfield 8, 3), (43, .iload_n 2, 1), (44, .iaload, 1), (45, .ifCond .ne 16, 3), (48, .aload_n 0, 1), (49, .aload_n 0, 1), (50, .getfield 189, 3), (53, .iload_n 1, 1), (54, .iaload, 1), (55, .invokevirtual 678, 3), (58, .goto 27, 3), (61, .aload_n 0, 1), (62, .aload_n 0, 1), (63, .getfield 180, 3), (66, .iload_n 1, 1), (67, .iaload, 1), (68, .aload_n 0, 1), (69, .getfield 8, 3), (72, .iload_n 2, 1), (73, .iaload, 1), (74, .aload_n 0, 1), (75, .getfield 8, 3), (78, .iload_n 2, 1)]
set_option maxRecDepth 20000 in
theorem dn_377_0_1_ok : dn_377_0_1.all (fun q => decide (decode (xm_b n_377) q.1 = .ok (q.2.1, q.2.2))) = true := xa_g_ok (by decide +kernel)
def dn_377_0_2 : List (Nat × Instr × Nat) := [(79, .iconst 1, 1), (80, .iadd, 1), (81, .iaload, 1), (82, .invokevirtual 684, 3), (85, .return_, 1)]
set_option maxRecDepth 20000 in
theorem dn_377_0_2_ok : dn_377_0_2.all (fun q => decide (decode (xm_b n_377) q.1 = .ok (q.2.1, q.2.2))) = true := xa_g_ok (by decide +kernel)
def te_377_0 : Nat → eE := (e_T 17 (e_T 10 (e_T 4 (e_T 0 (e_L 0 (0, ei_load 0 2 1, 0, 0)) (e_T 1 (e_L 1 (0, ei_getf eft elay 12 0 4, 0, 0)) (e_L 4 (0, ei_load 0 2 5, 0, 0)))) (e_T 5 (e_L 5 (0, ei_getf eft elay 12 97 8, 0, 0)) (e_T 8 (e_L 8 (0, ei_push (0, 13) 10, 0, 0)) (e_L 10 (0, ei_bin eF_add 11, 0, 0))))) (e_T 13 (e_T 11 (e_L 11 (0, ei_stk ef_dup2 12, 0, 0)) (e_T 12 (e_L 12 (0, ei_ald elay false 13, 0, 0)) (e_L 13 (0, ei_push (0, 1) 14, 0, 0)))) (e_T 15 (e_T 14 (e_L 14 (0, ei_bin eF_sub 15, 0, 0)) (e_L 15 (0, ei_ast elay false 16, 0, 0))) (e_T 16 (e_L 16 (0, ei_load 0 2 17, 0, 0)) (e_L 17 (0, ei_getf eft elay 12 97 20, 0, 0)))))) (e_T 29 (e_T 23 (e_T 20 (e_L 20 (0, ei_push (0, 60) 22, 0, 0)) (e_T 22 (e_L 22 (0, ei_bin eF_add 23, 0, 0)) (e_L 23 (0, ei_push (0, 2) 24, 0, 0)))) (e_T 25 (e_T 24 (e_L 24 (0, ei_load 0 2 25, 0, 0)) (e_L 25 (0, ei_getf eft elay 12 0 28, 0, 0))) (e_T 28 (e_L 28 (0, ei_load 0 2 29, 0, 0)) (e_L 29 (0, ei_getf eft elay 12 97 32, 0, 0))))) (e_T 35 (e_T 32 (e_L 32 (0, ei_push (0, 13) 34, 0, 0)) (e_T 34 (e_L 34 (0, ei_bin eF_add 35, 0, 0)) (e_L 35 (0, ei_ald elay false 36, 0, 0)))) (e_T 37 (e_T 36 (e_L 36 (0, ei_bin eF_mul 37, 0, 0)) (e_L 37 (0, ei_bin eF_add 38, 0, 0))) (e_T 38 (e_L 38 (0, ei_stor 2 0 39, 0, 0)) (e_L 39 (0, ei_load 0 2 40, 0, 0)))))))
set_option maxRecDepth 20000 in
set_option maxHeartbeats 4000000 in
theorem te_377_0_ok : ∀ pc, e_EOq eft cls elay eI n_377 pc (te_377_0 pc) :=
  (e_Tok2
  (e_Tok2
  (e_Tok2
  (e_Tok2
  (e_Lok (ld_aload_n_0 (x_dk dn_377_0_0_ok 0 rfl)))
  (e_Tok2
  (e_Lok (lk_12_8g ho_377 (x_dk dn_377_0_0_ok 1 rfl)))
  (e_Lok (ld_aload_n_0 (x_dk dn_377_0_0_ok 2 rfl)))))
  (e_Tok2
  (e_Lok (lk_12_651g ho_377 (x_dk dn_377_0_0_ok 3 rfl)))
  (e_Tok2
  (e_Lok (ps_bipush_13 (x_dk dn_377_0_0_ok 4 rfl)))
  (e_Lok (sm_iadd (x_dk dn_377_0_0_ok 5 rfl))))))
  (e_Tok2
  (e_Tok2
  (e_Lok (e_st (I := eI) (er_dup2 (x_dk dn_377_0_0_ok 6 rfl)) (nx_stk bf_dup2)))
  (e_Tok2
  (e_Lok (sm_iaload (x_dk dn_377_0_0_ok 7 rfl)))
  (e_Lok (ps_iconst_1 (x_dk dn_377_0_0_ok 8 rfl)))))
  (e_Tok2
  (e_Tok2
  (e_Lok (sm_isub (x_dk dn_377_0_0_ok 9 rfl)))
  (e_Lok (sm_iastore (x_dk dn_377_0_0_ok 10 rfl))))
  (e_Tok2
  (e_Lok (ld_aload_n_0 (x_dk dn_377_0_0_ok 11 rfl)))
  (e_Lok (lk_12_651g ho_377 (x_dk dn_377_0_0_ok 12 rfl)))))))
  (e_Tok2
  (e_Tok2
  (e_Tok2
  (e_Lok (ps_bipush_60 (x_dk dn_377_0_0_ok 13 rfl)))
  (e_Tok2
  (e_Lok (sm_iadd (x_dk dn_377_0_0_ok 14 rfl)))
  (e_Lok (ps_iconst_2 (x_dk dn_377_0_0_ok 15 rfl)))))
  (e_Tok2
  (e_Tok2
  (e_Lok (ld_aload_n_0 (x_dk dn_377_0_0_ok 16 rfl)))
  (e_Lok (lk_12_8g ho_377 (x_dk dn_377_0_0_ok 17 rfl))))
  (e_Tok2
  (e_Lok (ld_aload_n_0 (x_dk dn_377_0_0_ok 18 rfl)))
  (e_Lok (lk_12_651g ho_377 (x_dk dn_377_0_0_ok 19 rfl))))))
  (e_Tok2
  (e_Tok2
  (e_Lok (ps_bipush_13 (x_dk dn_377_0_0_ok 20 rfl)))
  (e_Tok2
  (e_Lok (sm_iadd (x_dk dn_377_0_0_ok 21 rfl)))
  (e_Lok (sm_iaload (x_dk dn_377_0_0_ok 22 rfl)))))
  (e_Tok2
  (e_Tok2
  (e_Lok (sm_imul (x_dk dn_377_0_0_ok 23 rfl)))
  (e_Lok (sm_iadd (x_dk dn_377_0_0_ok 24 rfl))))
  (e_Tok2
  (e_Lok (e_st (I := eI) (er_istore_n (i := 2) (x_dk dn_377_0_1_ok 0 rfl) (by decide +kernel)) nx_stor))
  (e_Lok (ld_aload_n_0 (x_dk dn_377_0_1_ok 1 rfl))))))))
def te_377_27 : Nat → eE := (e_T 63 (e_T 50 (e_T 44 (e_T 40 (e_L 40 (0, ei_getf eft elay 12 0 43, 0, 0)) (e_T 43 (e_L 43 (0, ei_load 2 0 44, 0, 0)) (e_L 44 (0, ei_ald elay false 45, 0, 0)))) (e_T 48 (e_T 45 (e_L 45 (0, ei_if1 1 61 48, 0, 0)) (e_L 48 (0, ei_load 0 2 49, 0, 0))) (e_T 49 (e_L 49 (0, ei_load 0 2 50, 0, 0)) (e_L 50 (0, ei_getf eft elay 12 71 53, 0, 0))))) (e_T 55 (e_T 53 (e_L 53 (0, ei_load 1 0 54, 0, 0)) (e_T 54 (e_L 54 (0, ei_ald elay false 55, 0, 0)) (e_L 55 (2, e_nof, 365, 2)))) (e_T 61 (e_T 58 (e_L 58 (0, ei_goto 85, 0, 0)) (e_L 61 (0, ei_load 0 2 62, 0, 0))) (e_T 62 (e_L 62 (0, ei_load 0 2 63, 0, 0)) (e_L 63 (0, ei_getf eft elay 12 68 66, 0, 0)))))) (e_T 74 (e_T 68 (e_T 66 (e_L 66 (0, ei_load 1 0 67, 0, 0)) (e_T 67 (e_L 67 (0, ei_ald elay false 68, 0, 0)) (e_L 68 (0, ei_load 0 2 69, 0, 0)))) (e_T 72 (e_T 69 (e_L 69 (0, ei_getf eft elay 12 0 72, 0, 0)) (e_L 72 (0, ei_load 2 0 73, 0, 0))) (e_T 73 (e_L 73 (0, ei_ald elay false 74, 0, 0)) (e_L 74 (0, ei_load 0 2 75, 0, 0))))) (e_T 79 (e_T 75 (e_L 75 (0, ei_getf eft elay 12 0 78, 0, 0)) (e_T 78 (e_L 78 (0, ei_load 2 0 79, 0, 0)) (e_L 79 (0, ei_push (0, 1) 80, 0, 0)))) (e_T 81 (e_T 80 (e_L 80 (0, ei_bin eF_add 81, 0, 0)) (e_L 81 (0, ei_ald elay false 82, 0, 0))) (e_T 82 (e_L 82 (2, e_nof, 371, 4)) (e_L 85 (1, e_nof, 0, 0)))))))
set_option maxRecDepth 20000 in
set_option maxHeartbeats 4000000 in
theorem te_377_27_ok : ∀ pc, e_EOq eft cls elay eI n_377 pc (te_377_27 pc) :=
  (e_Tok2
  (e_Tok2
  (e_Tok2
  (e_Tok2
  (e_Lok (lk_12_8g ho_377 (x_dk dn_377_0_1_ok 2 rfl)))
  (e_Tok2
  (e_Lok (ld_iload_n_2 (x_dk dn_377_0_1_ok 3 rfl)))
  (e_Lok (sm_iaload (x_dk dn_377_0_1_ok 4 rfl)))))
  (e_Tok2
  (e_Tok2
  (e_Lok (e_st (I := eI) (er_ifne (off := 16) (tg := 61) (x_dk dn_377_0_1_ok 5 rfl) (by decide)) nx_if1))
  (e_Lok (ld_aload_n_0 (x_dk dn_377_0_1_ok 6 rfl))))
  (e_Tok2
  (e_Lok (ld_aload_n_0 (x_dk dn_377_0_1_ok 7 rfl)))
  (e_Lok (lk_12_189g ho_377 (x_dk dn_377_0_1_ok 8 rfl))))))
  (e_Tok2
  (e_Tok2
  (e_Lok (ld_iload_n_1 (x_dk dn_377_0_1_ok 9 rfl)))
  (e_Tok2
  (e_Lok (sm_iaload (x_dk dn_377_0_1_ok 10 rfl)))
  (e_Lok (lk_12_678 ho_377 (x_dk dn_377_0_1_ok 11 rfl)))))
  (e_Tok2
  (e_Tok2
  (e_Lok (e_st (I := eI) (er_goto (off := 27) (tg := 85) (x_dk dn_377_0_1_ok 12 rfl) (by decide)) nx_goto))
  (e_Lok (ld_aload_n_0 (x_dk dn_377_0_1_ok 13 rfl))))
  (e_Tok2
  (e_Lok (ld_aload_n_0 (x_dk dn_377_0_1_ok 14 rfl)))
  (e_Lok (lk_12_180g ho_377 (x_dk dn_377_0_1_ok 15 rfl)))))))
  (e_Tok2
  (e_Tok2
  (e_Tok2
  (e_Lok (ld_iload_n_1 (x_dk dn_377_0_1_ok 16 rfl)))
  (e_Tok2
  (e_Lok (sm_iaload (x_dk dn_377_0_1_ok 17 rfl)))
  (e_Lok (ld_aload_n_0 (x_dk dn_377_0_1_ok 18 rfl)))))
  (e_Tok2
  (e_Tok2
  (e_Lok (lk_12_8g ho_377 (x_dk dn_377_0_1_ok 19 rfl)))
  (e_Lok (ld_iload_n_2 (x_dk dn_377_0_1_ok 20 rfl))))
  (e_Tok2
  (e_Lok (sm_iaload (x_dk dn_377_0_1_ok 21 rfl)))
  (e_Lok (ld_aload_n_0 (x_dk dn_377_0_1_ok 22 rfl))))))
  (e_Tok2
  (e_Tok2
  (e_Lok (lk_12_8g ho_377 (x_dk dn_377_0_1_ok 23 rfl)))
  (e_Tok2
  (e_Lok (ld_iload_n_2 (x_dk dn_377_0_1_ok 24 rfl)))
  (e_Lok (ps_iconst_1 (x_dk dn_377_0_2_ok 0 rfl)))))
  (e_Tok2
  (e_Tok2
  (e_Lok (sm_iadd (x_dk dn_377_0_2_ok 1 rfl)))
  (e_Lok (sm_iaload (x_dk dn_377_0_2_ok 2 rfl))))
  (e_Tok2
  (e_Lok (lk_12_684 ho_377 (x_dk dn_377_0_2_ok 3 rfl)))
  (e_Lok (e_rt (I := eI) (k := 0) ⟨(x_dk dn_377_0_2_ok 4 rfl), rfl⟩)))))))
def te_377 : Nat → eE := (e_T 39 te_377_0 te_377_27)
theorem te_377_ok : ∀ pc, e_EOq eft cls elay eI n_377 pc (te_377 pc) := (e_Tok2 (te_377_0_ok) (te_377_27_ok))
end
end
-- part 41bd
section
noncomputable section
theorem ho_378 : (xm_y n_378).cls = "RobotCellHouseModel" := rfl
def dn_378_0_0 : List (Nat × Instr × Nat) := [(0, .iload_n 1, 1), (1, .tableswitch 268 35 44 #[55, 90, 99, 268, 147, 268, 268, 250, 268, 166], 55), (56, .aload_n 0, 1), (57, .invokevirtual 714, 3), (60, .istore_n 3, 1), (61, .aload_n 0, 1), (62, .invokevirtual 714, 3), (65, .istore 4, 2), (67, .iload 4, 2), (69, .i2l, 1), (70, .lconst 0, 1), (71, .ldc2_w 352, 3), (74, .invokestatic 301, 3), (77, .ifCond .ne 5, 3), (80, .iconst 2, 1), (81, .ireturn, 1), (82, .aload_n 0, 1), (83, .iload 4, 2), (85, .iload_n 3, 1), (86, .invokevirtual 729, 3), (89, .iconst 0, 1), (90, .ireturn, 1), (91, .aload_n 0, 1), (92, .aload_n 0, 1), (93, .invokevirtual 714, 3)]
set_option maxRecDepth 20000 in
theorem dn_378_0_0_ok : dn_378_0_0.all (fun q => decide (decode (xm_b n_378) q.1 = .ok (q.2.1, q.2.2))) = true := xa_g_ok (by decide +kernel)
def dn_378_0_1 : List (Nat × Instr × Nat) := [(96, .invokevirtual 732, 3), (99, .ireturn, 1), (100, .aload_n 0, 1), (101, .invokevirtual 714, 3), (104, .istore 5, 2), (106, .iload 5, 2), (108, .i2l, 1), (109, .lconst 0, 1), (110, .ldc2_w 367, 3), (113, .invokestatic 301, 3), (116, .ifCond .eq 21, 3), (119, .aload_n 0, 1), (120, .getfield 8, 3), (123, .sipush 20868, 3), (126, .iload 5, 2), (128, .iadd, 1), (129, .iaload, 1), (130, .aload_n 0, 1), (131, .getfield 660, 3), (134, .if_icmp .eq 6, 3), (137, .bipush 9, 2), (139, .ireturn, 1), (140, .aload_n 0, 1), (141, .iload 5, 2), (143, .invokevirtual 648, 3)]
set_option maxRecDepth 20000 in
theorem dn_378_0_1_ok : dn_378_0_1.all (fun q => decide (decode (xm_b n_378) q.1 = .ok (q.2.1, q.2.2))) = true := xa_g_ok (by decide +kernel)
def dn_378_0_2 : List (Nat × Instr × Nat) := [(146, .iconst 0, 1), (147, .ireturn, 1), (148, .aload_n 0, 1), (149, .aload_n 0, 1), (150, .getfield 663, 3), (153, .iload_n 2, 1), (154, .invokevirtual 735, 3), (157, .ifCond .ge 8, 3), (160, .bipush 10, 2), (162, .goto 4, 3), (165, .iconst 0, 1), (166, .ireturn, 1), (167, .aload_n 0, 1), (168, .invokevirtual 714, 3), (171, .istore 6, 2), (173, .iload 6, 2), (175, .i2l, 1), (176, .ldc2_w 361, 3), (179, .ldc2_w 352, 3), (182, .invokestatic 301, 3), (185, .ifCond .ne 5, 3), (188, .iconst 2, 1), (189, .ireturn, 1), (190, .aload_n 0, 1), (191, .getfield 8, 3)]
set_option maxRecDepth 20000 in
theorem dn_378_0_2_ok : dn_378_0_2.all (fun q => decide (decode (xm_b n_378) q.1 = .ok (q.2.1, q.2.2))) = true := xa_g_ok (by decide +kernel)
def dn_378_0_3 : List (Nat × Instr × Nat) := [(194, .aload_n 0, 1), (195, .getfield 651, 3), (198, .bipush 8, 2), (200, .iadd, 1), (201, .iload 6, 2), (203, .iastore, 1), (204, .aload_n 0, 1), (205, .getfield 8, 3), (208, .aload_n 0, 1), (209, .getfield 651, 3), (212, .bipush 9, 2), (214, .iadd, 1), (215, .iload_n 2, 1), (216, .iastore, 1), (217, .aload_n 0, 1), (218, .getfield 8, 3), (221, .aload_n 0, 1), (222, .getfield 651, 3), (225, .bipush 10, 2), (227, .iadd, 1), (228, .iload 6, 2), (230, .ifCond .ge 7, 3), (233, .iconst 0, 1), (234, .goto 14, 3), (237, .aload_n 0, 1)]
set_option maxRecDepth 20000 in
theorem dn_378_0_3_ok : dn_378_0_3.all (fun q => decide (decode (xm_b n_378) q.1 = .ok (q.2.1, q.2.2))) = true := xa_g_ok (by decide +kernel)
def dn_378_1_0 : List (Nat × Instr × Nat) := [(238, .getfield 8, 3), (241, .sipush 352, 3), (244, .iload 6, 2), (246, .iadd, 1), (247, .iaload, 1), (248, .iastore, 1), (249, .iconst 0, 1), (250, .ireturn, 1), (251, .aload_n 0, 1), (252, .aload_n 0, 1), (253, .getfield 663, 3), (256, .invokevirtual 738, 3), (259, .ifCond .eq 7, 3), (262, .iconst 0, 1), (263, .goto 5, 3), (266, .bipush 7, 2), (268, .ireturn, 1), (269, .aload_n 0, 1), (270, .aload_n 0, 1), (271, .getfield 663, 3), (274, .invokevirtual 741, 3), (277, .ifCond .eq 7, 3), (280, .iconst 0, 1), (281, .goto 5, 3), (284, .bipush 7, 2)]
set_option maxRecDepth 20000 in
theorem dn_378_1_0_ok : dn_378_1_0.all (fun q => decide (decode (xm_b n_378) q.1 = .ok (q.2.1, q.2.2))) = true := xa_g_ok (by decide +kernel)
def dn_378_1_1 : List (Nat × Instr × Nat) := [(286, .ireturn, 1)]
set_option maxRecDepth 20000 in
theorem dn_378_1_1_ok : dn_378_1_1.all (fun q => decide (decode (xm_b n_378) q.1 = .ok (q.2.1, q.2.2))) = true := xa_g_ok (by decide +kernel)
def te_378_0 : Nat → eE := (e_T 80 (e_T 62 (e_T 56 (e_T 0 (e_L 0 (0, ei_load 1 0 1, 0, 0)) (e_T 1 (e_L 1 (0, ei_sw [((-2147483648), 34, 269), (35, 35, 56), (36, 36, 91), (37, 37, 100), (38, 38, 269), (39, 39, 148), (40, 40, 269), (41, 41, 269), (42, 42, 251), (43, 43, 269), (44, 44, 167), (45, 2147483647, 269)], 0, 0)) (e_L 56 (0, ei_load 0 2 57, 0, 0)))) (e_T 60 (e_T 57 (e_L 57 (2, e_nof, 364, 1)) (e_L 60 (0, ei_stor 3 0 61, 0, 0))) (e_T 61 (e_L 61 (0, ei_load 0 2 62, 0, 0)) (e_L 62 (2, e_nof, 364, 1))))) (e_T 70 (e_T 67 (e_T 65 (e_L 65 (0, ei_stor 4 0 67, 0, 0)) (e_L 67 (0, ei_load 4 0 69, 0, 0))) (e_T 69 (e_L 69 (0, ei_un (fun x => (4, x)) 70, 0, 0)) (e_L 70 (0, ei_push (4, 0) 71, 0, 0)))) (e_T 74 (e_T 71 (e_L 71 (0, ei_push (4, 63) 74, 0, 0)) (e_L 74 (2, e_nof, 266, 3))) (e_T 77 (e_L 77 (0, ei_if1 1 82 80, 0, 0)) (e_L 80 (0, ei_push (0, 2) 81, 0, 0)))))) (e_T 91 (e_T 85 (e_T 82 (e_T 81 (e_L 81 (1, e_nof, 1, 0)) (e_L 82 (0, ei_load 0 2 83, 0, 0))) (e_T 83 (e_L 83 (0, ei_load 4 0 85, 0, 0)) (e_L 85 (0, ei_load 3 0 86, 0, 0)))) (e_T 89 (e_T 86 (e_L 86 (2, e_nof, 323, 3)) (e_L 89 (0, ei_push (0, 0) 90, 0, 0))) (e_T 90 (e_L 90 (1, e_nof, 1, 0)) (e_L 91 (0, ei_load 0 2 92, 0, 0))))) (e_T 99 (e_T 93 (e_T 92 (e_L 92 (0, ei_load 0 2 93, 0, 0)) (e_L 93 (2, e_nof, 364, 1))) (e_T 96 (e_L 96 (2, e_nof, 379, 2)) (e_L 99 (1, e_nof, 1, 0)))) (e_T 101 (e_T 100 (e_L 100 (0, ei_load 0 2 101, 0, 0)) (e_L 101 (2, e_nof, 364, 1))) (e_T 104 (e_L 104 (0, ei_stor 5 0 106, 0, 0)) (e_L 106 (0, ei_load 5 0 108, 0, 0)))))))
set_option maxRecDepth 20000 in
set_option maxHeartbeats 4000000 in
theorem te_378_0_ok : ∀ pc, e_EOq eft cls elay eI n_378 pc (te_378_0 pc) :=
  (e_Tok2
  (e_Tok2
  (e_Tok2
  (e_Tok2
  (e_Lok (ld_iload_n_1 (x_dk dn_378_0_0_ok 0 rfl)))
  (e_Tok2
  (e_Lok (e_st (I := eI) (er_tsw (dflt := 268) (lo := 35) (hi := 44) (offs := #[55, 90, 99, 268, 147, 268, 268, 250, 268, 166]) (len := 55) (n := 10) (x_dk dn_378_0_0_ok 1 rfl) (by decide) (by decide +kernel)) nx_sw))
  (e_Lok (ld_aload_n_0 (x_dk dn_378_0_0_ok 2 rfl)))))
  (e_Tok2
  (e_Tok2
  (e_Lok (lk_12_714 ho_378 (x_dk dn_378_0_0_ok 3 rfl)))
  (e_Lok (e_st (I := eI) (er_istore_n (i := 3) (x_dk dn_378_0_0_ok 4 rfl) (by decide +kernel)) nx_stor)))
  (e_Tok2
  (e_Lok (ld_aload_n_0 (x_dk dn_378_0_0_ok 5 rfl)))
  (e_Lok (lk_12_714 ho_378 (x_dk dn_378_0_0_ok 6 rfl))))))
  (e_Tok2
  (e_Tok2
  (e_Tok2
  (e_Lok (e_st (I := eI) (er_istore (i := 4) (x_dk dn_378_0_0_ok 7 rfl) (by decide +kernel)) nx_stor))
  (e_Lok (ld_iload_4 (x_dk dn_378_0_0_ok 8 rfl))))
  (e_Tok2
  (e_Lok (e_st (I := eI) (er_i2l (x_dk dn_378_0_0_ok 9 rfl)) (nx_un (fun _ => rfl))))
  (e_Lok (ps_lconst_0 (x_dk dn_378_0_0_ok 10 rfl)))))
  (e_Tok2
  (e_Tok2
  (e_Lok (e_st (I := eI) (er_ldc2 (ix := 352) (z := 63) (v := 63) (x_dk dn_378_0_0_ok 11 rfl) (in_t11 (List.mem_of_getElem? (i := 81) rfl) rfl) (by decide)) (nx_push (Or.inl rfl))))
  (e_Lok (lk_12_301 ho_378 (x_dk dn_378_0_0_ok 12 rfl))))
  (e_Tok2
  (e_Lok (e_st (I := eI) (er_ifne (off := 5) (tg := 82) (x_dk dn_378_0_0_ok 13 rfl) (by decide)) nx_if1))
  (e_Lok (ps_iconst_2 (x_dk dn_378_0_0_ok 14 rfl)))))))
  (e_Tok2
  (e_Tok2
  (e_Tok2
  (e_Tok2
  (e_Lok (e_rt (I := eI) (k := 1) ⟨(x_dk dn_378_0_0_ok 15 rfl), rfl⟩))
  (e_Lok (ld_aload_n_0 (x_dk dn_378_0_0_ok 16 rfl))))
  (e_Tok2
  (e_Lok (ld_iload_4 (x_dk dn_378_0_0_ok 17 rfl)))
  (e_Lok (ld_iload_n_3 (x_dk dn_378_0_0_ok 18 rfl)))))
  (e_Tok2
  (e_Tok2
  (e_Lok (lk_12_729 ho_378 (x_dk dn_378_0_0_ok 19 rfl)))
  (e_Lok (ps_iconst_0 (x_dk dn_378_0_0_ok 20 rfl))))
  (e_Tok2
  (e_Lok (e_rt (I := eI) (k := 1) ⟨(x_dk dn_378_0_0_ok 21 rfl), rfl⟩))
  (e_Lok (ld_aload_n_0 (x_dk dn_378_0_0_ok 22 rfl))))))
  (e_Tok2
  (e_Tok2
  (e_Tok2
  (e_Lok (ld_aload_n_0 (x_dk dn_378_0_0_ok 23 rfl)))
  (e_Lok (lk_12_714 ho_378 (x_dk dn_378_0_0_ok 24 rfl))))
  (e_Tok2
  (e_Lok (lk_12_732 ho_378 (x_dk dn_378_0_1_ok 0 rfl)))
  (e_Lok (e_rt (I := eI) (k := 1) ⟨(x_dk dn_378_0_1_ok 1 rfl), rfl⟩))))
  (e_Tok2
  (e_Tok2
  (e_Lok (ld_aload_n_0 (x_dk dn_378_0_1_ok 2 rfl)))
  (e_Lok (lk_12_714 ho_378 (x_dk dn_378_0_1_ok 3 rfl))))
  (e_Tok2
  (e_Lok (e_st (I := eI) (er_istore (i := 5) (x_dk dn_378_0_1_ok 4 rfl) (by decide +kernel)) nx_stor))
  (e_Lok (ld_iload_5 (x_dk dn_378_0_1_ok 5 rfl))))))))
def te_378_31 : Nat → eE := (e_T 139 (e_T 123 (e_T 113 (e_T 109 (e_T 108 (e_L 108 (0, ei_un (fun x => (4, x)) 109, 0, 0)) (e_L 109 (0, ei_push (4, 0) 110, 0, 0))) (e_T 110 (e_L 110 (0, ei_push (4, 7) 113, 0, 0)) (e_L 113 (2, e_nof, 266, 3)))) (e_T 119 (e_T 116 (e_L 116 (0, ei_if1 0 137 119, 0, 0)) (e_L 119 (0, ei_load 0 2 120, 0, 0))) (e_T 120 (e_L 120 (0, ei_getf eft elay 12 0 123, 0, 0)) (e_L 123 (0, ei_push (0, 20868) 126, 0, 0))))) (e_T 130 (e_T 128 (e_T 126 (e_L 126 (0, ei_load 5 0 128, 0, 0)) (e_L 128 (0, ei_bin eF_add 129, 0, 0))) (e_T 129 (e_L 129 (0, ei_ald elay false 130, 0, 0)) (e_L 130 (0, ei_load 0 2 131, 0, 0)))) (e_T 134 (e_T 131 (e_L 131 (0, ei_getf eft elay 12 96 134, 0, 0)) (e_L 134 (0, ei_if2 0 140 137, 0, 0))) (e_T 137 (e_L 137 (0, ei_push (0, 9) 139, 0, 0)) (e_L 139 (1, e_nof, 1, 0)))))) (e_T 150 (e_T 146 (e_T 141 (e_T 140 (e_L 140 (0, ei_load 0 2 141, 0, 0)) (e_L 141 (0, ei_load 5 0 143, 0, 0))) (e_T 143 (e_L 143 (2, e_nof, 360, 2)) (e_L 146 (0, ei_push (0, 0) 147, 0, 0)))) (e_T 148 (e_T 147 (e_L 147 (1, e_nof, 1, 0)) (e_L 148 (0, ei_load 0 2 149, 0, 0))) (e_T 149 (e_L 149 (0, ei_load 0 2 150, 0, 0)) (e_L 150 (0, ei_getf eft elay 12 98 153, 0, 0))))) (e_T 160 (e_T 154 (e_T 153 (e_L 153 (0, ei_load 2 0 154, 0, 0)) (e_L 154 (2, e_nof, 359, 3))) (e_T 157 (e_L 157 (0, ei_if1 3 165 160, 0, 0)) (e_L 160 (0, ei_push (0, 10) 162, 0, 0)))) (e_T 165 (e_T 162 (e_L 162 (0, ei_goto 166, 0, 0)) (e_L 165 (0, ei_push (0, 0) 166, 0, 0))) (e_T 166 (e_L 166 (1, e_nof, 1, 0)) (e_L 167 (0, ei_load 0 2 168, 0, 0)))))))
set_option maxRecDepth 20000 in
set_option maxHeartbeats 4000000 in
theorem te_378_31_ok : ∀ pc, e_EOq eft cls elay eI n_378 pc (te_378_31 pc) :=
  (e_Tok2
  (e_Tok2
  (e_Tok2
  (e_Tok2
  (e_Tok2
  (e_Lok (e_st (I := eI) (er_i2l (x_dk dn_378_0_1_ok 6 rfl)) (nx_un (fun _ => rfl))))
  (e_Lok (ps_lconst_0 (x_dk dn_378_0_1_ok 7 rfl))))
  (e_Tok2
  (e_Lok (e_st (I := eI) (er_ldc2 (ix := 367) (z := 7) (v := 7) (x_dk dn_378_0_1_ok 8 rfl) (in_t11 (List.mem_of_getElem? (i := 120) rfl) rfl) (by decide)) (nx_push (Or.inl rfl))))
  (e_Lok (lk_12_301 ho_378 (x_dk dn_378_0_1_ok 9 rfl)))))
  (e_Tok2
  (e_Tok2
  (e_Lok (e_st (I := eI) (er_ifeq (off := 21) (tg := 137) (x_dk dn_378_0_1_ok 10 rfl) (by decide)) nx_if1))
  (e_Lok (ld_aload_n_0 (x_dk dn_378_0_1_ok 11 rfl))))
  (e_Tok2
  (e_Lok (lk_12_8g ho_378 (x_dk dn_378_0_1_ok 12 rfl)))
  (e_Lok (ps_sipush_20868 (x_dk dn_378_0_1_ok 13 rfl))))))
  (e_Tok2
  (e_Tok2
  (e_Tok2
  (e_Lok (ld_iload_5 (x_dk dn_378_0_1_ok 14 rfl)))
  (e_Lok (sm_iadd (x_dk dn_378_0_1_ok 15 rfl))))
  (e_Tok2
  (e_Lok (sm_iaload (x_dk dn_378_0_1_ok 16 rfl)))
  (e_Lok (ld_aload_n_0 (x_dk dn_378_0_1_ok 17 rfl)))))
  (e_Tok2
  (e_Tok2
  (e_Lok (lk_12_660g ho_378 (x_dk dn_378_0_1_ok 18 rfl)))
  (e_Lok (e_st (I := eI) (er_icmpeq (off := 6) (tg := 140) (x_dk dn_378_0_1_ok 19 rfl) (by decide)) nx_if2)))
  (e_Tok2
  (e_Lok (ps_bipush_9 (x_dk dn_378_0_1_ok 20 rfl)))
  (e_Lok (e_rt (I := eI) (k := 1) ⟨(x_dk dn_378_0_1_ok 21 rfl), rfl⟩))))))
  (e_Tok2
  (e_Tok2
  (e_Tok2
  (e_Tok2
  (e_Lok (ld_aload_n_0 (x_dk dn_378_0_1_ok 22 rfl)))
  (e_Lok (ld_iload_5 (x_dk dn_378_0_1_ok 23 rfl))))
  (e_Tok2
  (e_Lok (lk_12_648 ho_378 (x_dk dn_378_0_1_ok 24 rfl)))
  (e_Lok (ps_iconst_0 (x_dk dn_378_0_2_ok 0 rfl)))))
  (e_Tok2
  (e_Tok2
  (e_Lok (e_rt (I := eI) (k := 1) ⟨(x_dk dn_378_0_2_ok 1 rfl), rfl⟩))
  (e_Lok (ld_aload_n_0 (x_dk dn_378_0_2_ok 2 rfl))))
  (e_Tok2
  (e_Lok (ld_aload_n_0 (x_dk dn_378_0_2_ok 3 rfl)))
  (e_Lok (lk_12_663g ho_378 (x_dk dn_378_0_2_ok 4 rfl))))))
  (e_Tok2
  (e_Tok2
  (e_Tok2
  (e_Lok (ld_iload_n_2 (x_dk dn_378_0_2_ok 5 rfl)))
  (e_Lok (lk_12_735 ho_378 (x_dk dn_378_0_2_ok 6 rfl))))
  (e_Tok2
  (e_Lok (e_st (I := eI) (er_ifge (off := 8) (tg := 165) (x_dk dn_378_0_2_ok 7 rfl) (by decide)) nx_if1))
  (e_Lok (ps_bipush_10 (x_dk dn_378_0_2_ok 8 rfl)))))
  (e_Tok2
  (e_Tok2
  (e_Lok (e_st (I := eI) (er_goto (off := 4) (tg := 166) (x_dk dn_378_0_2_ok 9 rfl) (by decide)) nx_goto))
  (e_Lok (ps_iconst_0 (x_dk dn_378_0_2_ok 10 rfl))))
  (e_Tok2
  (e_Lok (e_rt (I := eI) (k := 1) ⟨(x_dk dn_378_0_2_ok 11 rfl), rfl⟩))
  (e_Lok (ld_aload_n_0 (x_dk dn_378_0_2_ok 12 rfl))))))))
def te_378_63 : Nat → eE := (e_T 198 (e_T 182 (e_T 173 (e_T 168 (e_L 168 (2, e_nof, 364, 1)) (e_T 171 (e_L 171 (0, ei_stor 6 0 173, 0, 0)) (e_L 173 (0, ei_load 6 0 175, 0, 0)))) (e_T 176 (e_T 175 (e_L 175 (0, ei_un (fun x => (4, x)) 176, 0, 0)) (e_L 176 (0, ei_push (4, (-1)) 179, 0, 0))) (e_T 179 (e_L 179 (0, ei_push (4, 63) 182, 0, 0)) (e_L 182 (2, e_nof, 266, 3))))) (e_T 190 (e_T 188 (e_T 185 (e_L 185 (0, ei_if1 1 190 188, 0, 0)) (e_L 188 (0, ei_push (0, 2) 189, 0, 0))) (e_T 189 (e_L 189 (1, e_nof, 1, 0)) (e_L 190 (0, ei_load 0 2 191, 0, 0)))) (e_T 194 (e_T 191 (e_L 191 (0, ei_getf eft elay 12 0 194, 0, 0)) (e_L 194 (0, ei_load 0 2 195, 0, 0))) (e_T 195 (e_L 195 (0, ei_getf eft elay 12 97 198, 0, 0)) (e_L 198 (0, ei_push (0, 8) 200, 0, 0)))))) (e_T 212 (e_T 204 (e_T 201 (e_T 200 (e_L 200 (0, ei_bin eF_add 201, 0, 0)) (e_L 201 (0, ei_load 6 0 203, 0, 0))) (e_T 203 (e_L 203 (0, ei_ast elay false 204, 0, 0)) (e_L 204 (0, ei_load 0 2 205, 0, 0)))) (e_T 208 (e_T 205 (e_L 205 (0, ei_getf eft elay 12 0 208, 0, 0)) (e_L 208 (0, ei_load 0 2 209, 0, 0))) (e_T 209 (e_L 209 (0, ei_getf eft elay 12 97 212, 0, 0)) (e_L 212 (0, ei_push (0, 9) 214, 0, 0))))) (e_T 217 (e_T 215 (e_T 214 (e_L 214 (0, ei_bin eF_add 215, 0, 0)) (e_L 215 (0, ei_load 2 0 216, 0, 0))) (e_T 216 (e_L 216 (0, ei_ast elay false 217, 0, 0)) (e_L 217 (0, ei_load 0 2 218, 0, 0)))) (e_T 221 (e_T 218 (e_L 218 (0, ei_getf eft elay 12 0 221, 0, 0)) (e_L 221 (0, ei_load 0 2 222, 0, 0))) (e_T 222 (e_L 222 (0, ei_getf eft elay 12 97 225, 0, 0)) (e_L 225 (0, ei_push (0, 10) 227, 0, 0)))))))
set_option maxRecDepth 20000 in
set_option maxHeartbeats 4000000 in
theorem te_378_63_ok : ∀ pc, e_EOq eft cls elay eI n_378 pc (te_378_63 pc) :=
  (e_Tok2
  (e_Tok2
  (e_Tok2
  (e_Tok2
  (e_Lok (lk_12_714 ho_378 (x_dk dn_378_0_2_ok 13 rfl)))
  (e_Tok2
  (e_Lok (e_st (I := eI) (er_istore (i := 6) (x_dk dn_378_0_2_ok 14 rfl) (by decide +kernel)) nx_stor))
  (e_Lok (ld_iload_6 (x_dk dn_378_0_2_ok 15 rfl)))))
  (e_Tok2
  (e_Tok2
  (e_Lok (e_st (I := eI) (er_i2l (x_dk dn_378_0_2_ok 16 rfl)) (nx_un (fun _ => rfl))))
  (e_Lok (e_st (I := eI) (er_ldc2 (ix := 361) (z := (-1)) (v := (-1)) (x_dk dn_378_0_2_ok 17 rfl) (in_t11 (List.mem_of_getElem? (i := 109) rfl) rfl) (by decide)) (nx_push (Or.inl rfl)))))
  (e_Tok2
  (e_Lok (e_st (I := eI) (er_ldc2 (ix := 352) (z := 63) (v := 63) (x_dk dn_378_0_2_ok 18 rfl) (in_t11 (List.mem_of_getElem? (i := 81) rfl) rfl) (by decide)) (nx_push (Or.inl rfl))))
  (e_Lok (lk_12_301 ho_378 (x_dk dn_378_0_2_ok 19 rfl))))))
  (e_Tok2
  (e_Tok2
  (e_Tok2
  (e_Lok (e_st (I := eI) (er_ifne (off := 5) (tg := 190) (x_dk dn_378_0_2_ok 20 rfl) (by decide)) nx_if1))
  (e_Lok (ps_iconst_2 (x_dk dn_378_0_2_ok 21 rfl))))
  (e_Tok2
  (e_Lok (e_rt (I := eI) (k := 1) ⟨(x_dk dn_378_0_2_ok 22 rfl), rfl⟩))
  (e_Lok (ld_aload_n_0 (x_dk dn_378_0_2_ok 23 rfl)))))
  (e_Tok2
  (e_Tok2
  (e_Lok (lk_12_8g ho_378 (x_dk dn_378_0_2_ok 24 rfl)))
  (e_Lok (ld_aload_n_0 (x_dk dn_378_0_3_ok 0 rfl))))
  (e_Tok2
  (e_Lok (lk_12_651g ho_378 (x_dk dn_378_0_3_ok 1 rfl)))
  (e_Lok (ps_bipush_8 (x_dk dn_378_0_3_ok 2 rfl)))))))
  (e_Tok2
  (e_Tok2
  (e_Tok2
  (e_Tok2
  (e_Lok (sm_iadd (x_dk dn_378_0_3_ok 3 rfl)))
  (e_Lok (ld_iload_6 (x_dk dn_378_0_3_ok 4 rfl))))
  (e_Tok2
  (e_Lok (sm_iastore (x_dk dn_378_0_3_ok 5 rfl)))
  (e_Lok (ld_aload_n_0 (x_dk dn_378_0_3_ok 6 rfl)))))
  (e_Tok2
  (e_Tok2
  (e_Lok (lk_12_8g ho_378 (x_dk dn_378_0_3_ok 7 rfl)))
  (e_Lok (ld_aload_n_0 (x_dk dn_378_0_3_ok 8 rfl))))
  (e_Tok2
  (e_Lok (lk_12_651g ho_378 (x_dk dn_378_0_3_ok 9 rfl)))
  (e_Lok (ps_bipush_9 (x_dk dn_378_0_3_ok 10 rfl))))))
  (e_Tok2
  (e_Tok2
  (e_Tok2
  (e_Lok (sm_iadd (x_dk dn_378_0_3_ok 11 rfl)))
  (e_Lok (ld_iload_n_2 (x_dk dn_378_0_3_ok 12 rfl))))
  (e_Tok2
  (e_Lok (sm_iastore (x_dk dn_378_0_3_ok 13 rfl)))
  (e_Lok (ld_aload_n_0 (x_dk dn_378_0_3_ok 14 rfl)))))
  (e_Tok2
  (e_Tok2
  (e_Lok (lk_12_8g ho_378 (x_dk dn_378_0_3_ok 15 rfl)))
  (e_Lok (ld_aload_n_0 (x_dk dn_378_0_3_ok 16 rfl))))
  (e_Tok2
  (e_Lok (lk_12_651g ho_378 (x_dk dn_378_0_3_ok 17 rfl)))
  (e_Lok (ps_bipush_10 (x_dk dn_378_0_3_ok 18 rfl))))))))
def te_378_94 : Nat → eE := (e_T 252 (e_T 241 (e_T 233 (e_T 228 (e_T 227 (e_L 227 (0, ei_bin eF_add 228, 0, 0)) (e_L 228 (0, ei_load 6 0 230, 0, 0))) (e_T 230 (e_L 230 (0, ei_if1 3 237 233, 0, 0)) (e_L 233 (0, ei_push (0, 0) 234, 0, 0)))) (e_T 237 (e_T 234 (e_L 234 (0, ei_goto 248, 0, 0)) (e_L 237 (0, ei_load 0 2 238, 0, 0))) (e_T 238 (e_L 238 (0, ei_getf eft elay 12 0 241, 0, 0)) (e_L 241 (0, ei_push (0, 352) 244, 0, 0))))) (e_T 248 (e_T 246 (e_T 244 (e_L 244 (0, ei_load 6 0 246, 0, 0)) (e_L 246 (0, ei_bin eF_add 247, 0, 0))) (e_T 247 (e_L 247 (0, ei_ald elay false 248, 0, 0)) (e_L 248 (0, ei_ast elay false 249, 0, 0)))) (e_T 250 (e_T 249 (e_L 249 (0, ei_push (0, 0) 250, 0, 0)) (e_L 250 (1, e_nof, 1, 0))) (e_T 251 (e_L 251 (0, ei_load 0 2 252, 0, 0)) (e_L 252 (0, ei_load 0 2 253, 0, 0)))))) (e_T 269 (e_T 262 (e_T 256 (e_T 253 (e_L 253 (0, ei_getf eft elay 12 98 256, 0, 0)) (e_L 256 (2, e_nof, 396, 2))) (e_T 259 (e_L 259 (0, ei_if1 0 266 262, 0, 0)) (e_L 262 (0, ei_push (0, 0) 263, 0, 0)))) (e_T 266 (e_T 263 (e_L 263 (0, ei_goto 268, 0, 0)) (e_L 266 (0, ei_push (0, 7) 268, 0, 0))) (e_T 268 (e_L 268 (1, e_nof, 1, 0)) (e_L 269 (0, ei_load 0 2 270, 0, 0))))) (e_T 277 (e_T 271 (e_T 270 (e_L 270 (0, ei_load 0 2 271, 0, 0)) (e_L 271 (0, ei_getf eft elay 12 98 274, 0, 0))) (e_T 274 (e_L 274 (2, e_nof, 397, 2)) (e_L 277 (0, ei_if1 0 284 280, 0, 0)))) (e_T 281 (e_T 280 (e_L 280 (0, ei_push (0, 0) 281, 0, 0)) (e_L 281 (0, ei_goto 286, 0, 0))) (e_T 284 (e_L 284 (0, ei_push (0, 7) 286, 0, 0)) (e_L 286 (1, e_nof, 1, 0)))))))
set_option maxRecDepth 20000 in
set_option maxHeartbeats 4000000 in
theorem te_378_94_ok : ∀ pc, e_EOq eft cls elay eI n_378 pc (te_378_94 pc) :=
  (e_Tok2
  (e_Tok2
  (e_Tok2
  (e_Tok2
  (e_Tok2
  (e_Lok (sm_iadd (x_dk dn_378_0_3_ok 19 rfl)))
  (e_Lok (ld_iload_6 (x_dk dn_378_0_3_ok 20 rfl))))
  (e_Tok2
  (e_Lok (e_st (I := eI) (er_ifge (off := 7) (tg := 237) (x_dk dn_378_0_3_ok 21 rfl) (by decide)) nx_if1))
  (e_Lok (ps_iconst_0 (x_dk dn_378_0_3_ok 22 rfl)))))
  (e_Tok2
  (e_Tok2
  (e_Lok (e_st (I := eI) (er_goto (off := 14) (tg := 248) (x_dk dn_378_0_3_ok 23 rfl) (by decide)) nx_goto))
  (e_Lok (ld_aload_n_0 (x_dk dn_378_0_3_ok 24 rfl))))
  (e_Tok2
  (e_Lok (lk_12_8g ho_378 (x_dk dn_378_1_0_ok 0 rfl)))
  (e_Lok (ps_sipush_352 (x_dk dn_378_1_0_ok 1 rfl))))))
  (e_Tok2
  (e_Tok2
  (e_Tok2
  (e_Lok (ld_iload_6 (x_dk dn_378_1_0_ok 2 rfl)))
  (e_Lok (sm_iadd (x_dk dn_378_1_0_ok 3 rfl))))
  (e_Tok2
  (e_Lok (sm_iaload (x_dk dn_378_1_0_ok 4 rfl)))
  (e_Lok (sm_iastore (x_dk dn_378_1_0_ok 5 rfl)))))
  (e_Tok2
  (e_Tok2
  (e_Lok (ps_iconst_0 (x_dk dn_378_1_0_ok 6 rfl)))
  (e_Lok (e_rt (I := eI) (k := 1) ⟨(x_dk dn_378_1_0_ok 7 rfl), rfl⟩)))
  (e_Tok2
  (e_Lok (ld_aload_n_0 (x_dk dn_378_1_0_ok 8 rfl)))
  (e_Lok (ld_aload_n_0 (x_dk dn_378_1_0_ok 9 rfl)))))))
  (e_Tok2
  (e_Tok2
  (e_Tok2
  (e_Tok2
  (e_Lok (lk_12_663g ho_378 (x_dk dn_378_1_0_ok 10 rfl)))
  (e_Lok (lk_12_738 ho_378 (x_dk dn_378_1_0_ok 11 rfl))))
  (e_Tok2
  (e_Lok (e_st (I := eI) (er_ifeq (off := 7) (tg := 266) (x_dk dn_378_1_0_ok 12 rfl) (by decide)) nx_if1))
  (e_Lok (ps_iconst_0 (x_dk dn_378_1_0_ok 13 rfl)))))
  (e_Tok2
  (e_Tok2
  (e_Lok (e_st (I := eI) (er_goto (off := 5) (tg := 268) (x_dk dn_378_1_0_ok 14 rfl) (by decide)) nx_goto))
  (e_Lok (ps_bipush_7 (x_dk dn_378_1_0_ok 15 rfl))))
  (e_Tok2
  (e_Lok (e_rt (I := eI) (k := 1) ⟨(x_dk dn_378_1_0_ok 16 rfl), rfl⟩))
  (e_Lok (ld_aload_n_0 (x_dk dn_378_1_0_ok 17 rfl))))))
  (e_Tok2
  (e_Tok2
  (e_Tok2
  (e_Lok (ld_aload_n_0 (x_dk dn_378_1_0_ok 18 rfl)))
  (e_Lok (lk_12_663g ho_378 (x_dk dn_378_1_0_ok 19 rfl))))
  (e_Tok2
  (e_Lok (lk_12_741 ho_378 (x_dk dn_378_1_0_ok 20 rfl)))
  (e_Lok (e_st (I := eI) (er_ifeq (off := 7) (tg := 284) (x_dk dn_378_1_0_ok 21 rfl) (by decide)) nx_if1))))
  (e_Tok2
  (e_Tok2
  (e_Lok (ps_iconst_0 (x_dk dn_378_1_0_ok 22 rfl)))
  (e_Lok (e_st (I := eI) (er_goto (off := 5) (tg := 286) (x_dk dn_378_1_0_ok 23 rfl) (by decide)) nx_goto)))
  (e_Tok2
  (e_Lok (ps_bipush_7 (x_dk dn_378_1_0_ok 24 rfl)))
  (e_Lok (e_rt (I := eI) (k := 1) ⟨(x_dk dn_378_1_1_ok 0 rfl), rfl⟩)))))))
def te_378 : Nat → eE := (e_T 167 (e_T 106 te_378_0 te_378_31) (e_T 225 te_378_63 te_378_94))
theorem te_378_ok : ∀ pc, e_EOq eft cls elay eI n_378 pc (te_378 pc) := (e_Tok2 ((e_Tok2 (te_378_0_ok) (te_378_31_ok))) ((e_Tok2 (te_378_63_ok) (te_378_94_ok))))
theorem ho_379 : (xm_y n_379).cls = "RobotCellHouseModel" := rfl
def dn_379_0_0 : List (Nat × Instr × Nat) := [(0, .iload_n 1, 1), (1, .i2l, 1), (2, .lconst 0, 1), (3, .ldc2_w 367, 3), (6, .invokestatic 301, 3), (9, .ifCond .ne 5, 3), (12, .iconst 2, 1), (13, .ireturn, 1), (14, .aload_n 0, 1), (15, .getfield 8, 3), (18, .sipush 20868, 3), (21, .iload_n 1, 1), (22, .iadd, 1), (23, .iaload, 1), (24, .aload_n 0, 1), (25, .getfield 660, 3), (28, .if_icmp .ne 6, 3), (31, .bipush 9, 2), (33, .ireturn, 1), (34, .aload_n 0, 1), (35, .getfield 8, 3), (38, .sipush 20868, 3), (41, .iload_n 1, 1), (42, .iadd, 1), (43, .iaload, 1)]
set_option maxRecDepth 20000 in
theorem dn_379_0_0_ok : dn_379_0_0.all (fun q => decide (decode (xm_b n_379) q.1 = .ok (q.2.1, q.2.2))) = true := xa_g_ok (by decide +kernel)
def dn_379_0_1 : List (Nat × Instr × Nat) := [(44, .ifCond .ge 20, 3), (47, .aload_n 0, 1), (48, .getfield 8, 3), (51, .sipush 20868, 3), (54, .iload_n 1, 1), (55, .iadd, 1), (56, .aload_n 0, 1), (57, .getfield 660, 3), (60, .iastore, 1), (61, .goto 60, 3), (64, .aload_n 0, 1), (65, .getfield 8, 3), (68, .aload_n 0, 1), (69, .getfield 651, 3), (72, .iconst 5, 1), (73, .iastore, 1), (74, .aload_n 0, 1), (75, .getfield 8, 3), (78, .aload_n 0, 1), (79, .getfield 651, 3), (82, .iconst 5, 1), (83, .iadd, 1), (84, .iload_n 1, 1), (85, .iastore, 1), (86, .aload_n 0, 1)]
set_option maxRecDepth 20000 in
theorem dn_379_0_1_ok : dn_379_0_1.all (fun q => decide (decode (xm_b n_379) q.1 = .ok (q.2.1, q.2.2))) = true := xa_g_ok (by decide +kernel)
def dn_379_0_2 : List (Nat × Instr × Nat) := [(87, .getfield 8, 3), (90, .aload_n 0, 1), (91, .getfield 651, 3), (94, .bipush 6, 2), (96, .iadd, 1), (97, .aload_n 0, 1), (98, .getfield 8, 3), (101, .bipush 6, 2), (103, .iaload, 1), (104, .iastore, 1), (105, .aload_n 0, 1), (106, .getfield 8, 3), (109, .bipush 6, 2), (111, .dup2, 1), (112, .iaload, 1), (113, .iconst 1, 1), (114, .iadd, 1), (115, .iastore, 1), (116, .aload_n 0, 1), (117, .iconst 1, 1), (118, .putfield 669, 3), (121, .iconst 0, 1), (122, .ireturn, 1)]
set_option maxRecDepth 20000 in
theorem dn_379_0_2_ok : dn_379_0_2.all (fun q => decide (decode (xm_b n_379) q.1 = .ok (q.2.1, q.2.2))) = true := xa_g_ok (by decide +kernel)
def te_379_0 : Nat → eE := (e_T 31 (e_T 14 (e_T 3 (e_T 1 (e_T 0 (e_L 0 (0, ei_load 1 0 1, 0, 0)) (e_L 1 (0, ei_un (fun x => (4, x)) 2, 0, 0))) (e_T 2 (e_L 2 (0, ei_push (4, 0) 3, 0, 0)) (e_L 3 (0, ei_push (4, 7) 6, 0, 0)))) (e_T 9 (e_T 6 (e_L 6 (2, e_nof, 266, 3)) (e_L 9 (0, ei_if1 1 14 12, 0, 0))) (e_T 12 (e_L 12 (0, ei_push (0, 2) 13, 0, 0)) (e_T 13 (e_L 13 (1, e_nof, 1, 0)) (e_L 14 (0, ei_load 0 2 15, 0, 0)))))) (e_T 22 (e_T 18 (e_T 15 (e_L 15 (0, ei_getf eft elay 12 0 18, 0, 0)) (e_L 18 (0, ei_push (0, 20868) 21, 0, 0))) (e_T 21 (e_L 21 (0, ei_load 1 0 22, 0, 0)) (e_L 22 (0, ei_bin eF_add 23, 0, 0)))) (e_T 24 (e_T 23 (e_L 23 (0, ei_ald elay false 24, 0, 0)) (e_L 24 (0, ei_load 0 2 25, 0, 0))) (e_T 25 (e_L 25 (0, ei_getf eft elay 12 96 28, 0, 0)) (e_T 28 (e_L 28 (0, ei_if2 1 34 31, 0, 0)) (e_L 31 (0, ei_push (0, 9) 33, 0, 0))))))) (e_T 47 (e_T 38 (e_T 34 (e_T 33 (e_L 33 (1, e_nof, 1, 0)) (e_L 34 (0, ei_load 0 2 35, 0, 0))) (e_T 35 (e_L 35 (0, ei_getf eft elay 12 0 38, 0, 0)) (e_L 38 (0, ei_push (0, 20868) 41, 0, 0)))) (e_T 42 (e_T 41 (e_L 41 (0, ei_load 1 0 42, 0, 0)) (e_L 42 (0, ei_bin eF_add 43, 0, 0))) (e_T 43 (e_L 43 (0, ei_ald elay false 44, 0, 0)) (e_T 44 (e_L 44 (0, ei_if1 3 64 47, 0, 0)) (e_L 47 (0, ei_load 0 2 48, 0, 0)))))) (e_T 55 (e_T 51 (e_T 48 (e_L 48 (0, ei_getf eft elay 12 0 51, 0, 0)) (e_L 51 (0, ei_push (0, 20868) 54, 0, 0))) (e_T 54 (e_L 54 (0, ei_load 1 0 55, 0, 0)) (e_L 55 (0, ei_bin eF_add 56, 0, 0)))) (e_T 57 (e_T 56 (e_L 56 (0, ei_load 0 2 57, 0, 0)) (e_L 57 (0, ei_getf eft elay 12 96 60, 0, 0))) (e_T 60 (e_L 60 (0, ei_ast elay false 61, 0, 0)) (e_T 61 (e_L 61 (0, ei_goto 121, 0, 0)) (e_L 64 (0, ei_load 0 2 65, 0, 0))))))))
set_option maxRecDepth 20000 in
set_option maxHeartbeats 4000000 in
theorem te_379_0_ok : ∀ pc, e_EOq eft cls elay eI n_379 pc (te_379_0 pc) :=
  (e_Tok2
  (e_Tok2
  (e_Tok2
  (e_Tok2
  (e_Tok2
  (e_Lok (ld_iload_n_1 (x_dk dn_379_0_0_ok 0 rfl)))
  (e_Lok (e_st (I := eI) (er_i2l (x_dk dn_379_0_0_ok 1 rfl)) (nx_un (fun _ => rfl)))))
  (e_Tok2
  (e_Lok (ps_lconst_0 (x_dk dn_379_0_0_ok 2 rfl)))
  (e_Lok (e_st (I := eI) (er_ldc2 (ix := 367) (z := 7) (v := 7) (x_dk dn_379_0_0_ok 3 rfl) (in_t11 (List.mem_of_getElem? (i := 120) rfl) rfl) (by decide)) (nx_push (Or.inl rfl))))))
  (e_Tok2
  (e_Tok2
  (e_Lok (lk_12_301 ho_379 (x_dk dn_379_0_0_ok 4 rfl)))
  (e_Lok (e_st (I := eI) (er_ifne (off := 5) (tg := 14) (x_dk dn_379_0_0_ok 5 rfl) (by decide)) nx_if1)))
  (e_Tok2
  (e_Lok (ps_iconst_2 (x_dk dn_379_0_0_ok 6 rfl)))
  (e_Tok2
  (e_Lok (e_rt (I := eI) (k := 1) ⟨(x_dk dn_379_0_0_ok 7 rfl), rfl⟩))
  (e_Lok (ld_aload_n_0 (x_dk dn_379_0_0_ok 8 rfl)))))))
  (e_Tok2
  (e_Tok2
  (e_Tok2
  (e_Lok (lk_12_8g ho_379 (x_dk dn_379_0_0_ok 9 rfl)))
  (e_Lok (ps_sipush_20868 (x_dk dn_379_0_0_ok 10 rfl))))
  (e_Tok2
  (e_Lok (ld_iload_n_1 (x_dk dn_379_0_0_ok 11 rfl)))
  (e_Lok (sm_iadd (x_dk dn_379_0_0_ok 12 rfl)))))
  (e_Tok2
  (e_Tok2
  (e_Lok (sm_iaload (x_dk dn_379_0_0_ok 13 rfl)))
  (e_Lok (ld_aload_n_0 (x_dk dn_379_0_0_ok 14 rfl))))
  (e_Tok2
  (e_Lok (lk_12_660g ho_379 (x_dk dn_379_0_0_ok 15 rfl)))
  (e_Tok2
  (e_Lok (e_st (I := eI) (er_icmpne (off := 6) (tg := 34) (x_dk dn_379_0_0_ok 16 rfl) (by decide)) nx_if2))
  (e_Lok (ps_bipush_9 (x_dk dn_379_0_0_ok 17 rfl))))))))
  (e_Tok2
  (e_Tok2
  (e_Tok2
  (e_Tok2
  (e_Lok (e_rt (I := eI) (k := 1) ⟨(x_dk dn_379_0_0_ok 18 rfl), rfl⟩))
  (e_Lok (ld_aload_n_0 (x_dk dn_379_0_0_ok 19 rfl))))
  (e_Tok2
  (e_Lok (lk_12_8g ho_379 (x_dk dn_379_0_0_ok 20 rfl)))
  (e_Lok (ps_sipush_20868 (x_dk dn_379_0_0_ok 21 rfl)))))
  (e_Tok2
  (e_Tok2
  (e_Lok (ld_iload_n_1 (x_dk dn_379_0_0_ok 22 rfl)))
  (e_Lok (sm_iadd (x_dk dn_379_0_0_ok 23 rfl))))
  (e_Tok2
  (e_Lok (sm_iaload (x_dk dn_379_0_0_ok 24 rfl)))
  (e_Tok2
  (e_Lok (e_st (I := eI) (er_ifge (off := 20) (tg := 64) (x_dk dn_379_0_1_ok 0 rfl) (by decide)) nx_if1))
  (e_Lok (ld_aload_n_0 (x_dk dn_379_0_1_ok 1 rfl)))))))
  (e_Tok2
  (e_Tok2
  (e_Tok2
  (e_Lok (lk_12_8g ho_379 (x_dk dn_379_0_1_ok 2 rfl)))
  (e_Lok (ps_sipush_20868 (x_dk dn_379_0_1_ok 3 rfl))))
  (e_Tok2
  (e_Lok (ld_iload_n_1 (x_dk dn_379_0_1_ok 4 rfl)))
  (e_Lok (sm_iadd (x_dk dn_379_0_1_ok 5 rfl)))))
  (e_Tok2
  (e_Tok2
  (e_Lok (ld_aload_n_0 (x_dk dn_379_0_1_ok 6 rfl)))
  (e_Lok (lk_12_660g ho_379 (x_dk dn_379_0_1_ok 7 rfl))))
  (e_Tok2
  (e_Lok (sm_iastore (x_dk dn_379_0_1_ok 8 rfl)))
  (e_Tok2
  (e_Lok (e_st (I := eI) (er_goto (off := 60) (tg := 121) (x_dk dn_379_0_1_ok 9 rfl) (by decide)) nx_goto))
  (e_Lok (ld_aload_n_0 (x_dk dn_379_0_1_ok 10 rfl)))))))))
def te_379_36 : Nat → eE := (e_T 94 (e_T 79 (e_T 72 (e_T 68 (e_T 65 (e_L 65 (0, ei_getf eft elay 12 0 68, 0, 0)) (e_L 68 (0, ei_load 0 2 69, 0, 0))) (e_T 69 (e_L 69 (0, ei_getf eft elay 12 97 72, 0, 0)) (e_L 72 (0, ei_push (0, 5) 73, 0, 0)))) (e_T 74 (e_T 73 (e_L 73 (0, ei_ast elay false 74, 0, 0)) (e_L 74 (0, ei_load 0 2 75, 0, 0))) (e_T 75 (e_L 75 (0, ei_getf eft elay 12 0 78, 0, 0)) (e_T 78 (e_L 78 (0, ei_load 0 2 79, 0, 0)) (e_L 79 (0, ei_getf eft elay 12 97 82, 0, 0)))))) (e_T 85 (e_T 83 (e_T 82 (e_L 82 (0, ei_push (0, 5) 83, 0, 0)) (e_L 83 (0, ei_bin eF_add 84, 0, 0))) (e_T 84 (e_L 84 (0, ei_load 1 0 85, 0, 0)) (e_L 85 (0, ei_ast elay false 86, 0, 0)))) (e_T 87 (e_T 86 (e_L 86 (0, ei_load 0 2 87, 0, 0)) (e_L 87 (0, ei_getf eft elay 12 0 90, 0, 0))) (e_T 90 (e_L 90 (0, ei_load 0 2 91, 0, 0)) (e_T 91 (e_L 91 (0, ei_getf eft elay 12 97 94, 0, 0)) (e_L 94 (0, ei_push (0, 6) 96, 0, 0))))))) (e_T 109 (e_T 101 (e_T 97 (e_T 96 (e_L 96 (0, ei_bin eF_add 97, 0, 0)) (e_L 97 (0, ei_load 0 2 98, 0, 0))) (e_T 98 (e_L 98 (0, ei_getf eft elay 12 0 101, 0, 0)) (e_L 101 (0, ei_push (0, 6) 103, 0, 0)))) (e_T 104 (e_T 103 (e_L 103 (0, ei_ald elay false 104, 0, 0)) (e_L 104 (0, ei_ast elay false 105, 0, 0))) (e_T 105 (e_L 105 (0, ei_load 0 2 106, 0, 0)) (e_T 106 (e_L 106 (0, ei_getf eft elay 12 0 109, 0, 0)) (e_L 109 (0, ei_push (0, 6) 111, 0, 0)))))) (e_T 115 (e_T 112 (e_T 111 (e_L 111 (0, ei_stk ef_dup2 112, 0, 0)) (e_L 112 (0, ei_ald elay false 113, 0, 0))) (e_T 113 (e_L 113 (0, ei_push (0, 1) 114, 0, 0)) (e_T 114 (e_L 114 (0, ei_bin eF_add 115, 0, 0)) (e_L 115 (0, ei_ast elay false 116, 0, 0))))) (e_T 117 (e_T 116 (e_L 116 (0, ei_load 0 2 117, 0, 0)) (e_L 117 (0, ei_push (0, 1) 118, 0, 0))) (e_T 118 (e_L 118 (0, ei_putf eft elay 12 100 1 121, 0, 0)) (e_T 121 (e_L 121 (0, ei_push (0, 0) 122, 0, 0)) (e_L 122 (1, e_nof, 1, 0))))))))
set_option maxRecDepth 20000 in
set_option maxHeartbeats 4000000 in
theorem te_379_36_ok : ∀ pc, e_EOq eft cls elay eI n_379 pc (te_379_36 pc) :=
  (e_Tok2
  (e_Tok2
  (e_Tok2
  (e_Tok2
  (e_Tok2
  (e_Lok (lk_12_8g ho_379 (x_dk dn_379_0_1_ok 11 rfl)))
  (e_Lok (ld_aload_n_0 (x_dk dn_379_0_1_ok 12 rfl))))
  (e_Tok2
  (e_Lok (lk_12_651g ho_379 (x_dk dn_379_0_1_ok 13 rfl)))
  (e_Lok (ps_iconst_5 (x_dk dn_379_0_1_ok 14 rfl)))))
  (e_Tok2
  (e_Tok2
  (e_Lok (sm_iastore (x_dk dn_379_0_1_ok 15 rfl)))
  (e_Lok (ld_aload_n_0 (x_dk dn_379_0_1_ok 16 rfl))))
  (e_Tok2
  (e_Lok (lk_12_8g ho_379 (x_dk dn_379_0_1_ok 17 rfl)))
  (e_Tok2
  (e_Lok (ld_aload_n_0 (x_dk dn_379_0_1_ok 18 rfl)))
  (e_Lok (lk_12_651g ho_379 (x_dk dn_379_0_1_ok 19 rfl)))))))
  (e_Tok2
  (e_Tok2
  (e_Tok2
  (e_Lok (ps_iconst_5 (x_dk dn_379_0_1_ok 20 rfl)))
  (e_Lok (sm_iadd (x_dk dn_379_0_1_ok 21 rfl))))
  (e_Tok2
  (e_Lok (ld_iload_n_1 (x_dk dn_379_0_1_ok 22 rfl)))
  (e_Lok (sm_iastore (x_dk dn_379_0_1_ok 23 rfl)))))
  (e_Tok2
  (e_Tok2
  (e_Lok (ld_aload_n_0 (x_dk dn_379_0_1_ok 24 rfl)))
  (e_Lok (lk_12_8g ho_379 (x_dk dn_379_0_2_ok 0 rfl))))
  (e_Tok2
  (e_Lok (ld_aload_n_0 (x_dk dn_379_0_2_ok 1 rfl)))
  (e_Tok2
  (e_Lok (lk_12_651g ho_379 (x_dk dn_379_0_2_ok 2 rfl)))
  (e_Lok (ps_bipush_6 (x_dk dn_379_0_2_ok 3 rfl))))))))
  (e_Tok2
  (e_Tok2
  (e_Tok2
  (e_Tok2
  (e_Lok (sm_iadd (x_dk dn_379_0_2_ok 4 rfl)))
  (e_Lok (ld_aload_n_0 (x_dk dn_379_0_2_ok 5 rfl))))
  (e_Tok2
  (e_Lok (lk_12_8g ho_379 (x_dk dn_379_0_2_ok 6 rfl)))
  (e_Lok (ps_bipush_6 (x_dk dn_379_0_2_ok 7 rfl)))))
  (e_Tok2
  (e_Tok2
  (e_Lok (sm_iaload (x_dk dn_379_0_2_ok 8 rfl)))
  (e_Lok (sm_iastore (x_dk dn_379_0_2_ok 9 rfl))))
  (e_Tok2
  (e_Lok (ld_aload_n_0 (x_dk dn_379_0_2_ok 10 rfl)))
  (e_Tok2
  (e_Lok (lk_12_8g ho_379 (x_dk dn_379_0_2_ok 11 rfl)))
  (e_Lok (ps_bipush_6 (x_dk dn_379_0_2_ok 12 rfl)))))))
  (e_Tok2
  (e_Tok2
  (e_Tok2
  (e_Lok (e_st (I := eI) (er_dup2 (x_dk dn_379_0_2_ok 13 rfl)) (nx_stk bf_dup2)))
  (e_Lok (sm_iaload (x_dk dn_379_0_2_ok 14 rfl))))
  (e_Tok2
  (e_Lok (ps_iconst_1 (x_dk dn_379_0_2_ok 15 rfl)))
  (e_Tok2
  (e_Lok (sm_iadd (x_dk dn_379_0_2_ok 16 rfl)))
  (e_Lok (sm_iastore (x_dk dn_379_0_2_ok 17 rfl))))))
  (e_Tok2
  (e_Tok2
  (e_Lok (ld_aload_n_0 (x_dk dn_379_0_2_ok 18 rfl)))
  (e_Lok (ps_iconst_1 (x_dk dn_379_0_2_ok 19 rfl))))
  (e_Tok2
  (e_Lok (lk_12_669p ho_379 (x_dk dn_379_0_2_ok 20 rfl)))
  (e_Tok2
  (e_Lok (ps_iconst_0 (x_dk dn_379_0_2_ok 21 rfl)))
  (e_Lok (e_rt (I := eI) (k := 1) ⟨(x_dk dn_379_0_2_ok 22 rfl), rfl⟩))))))))
def te_379 : Nat → eE := (e_T 64 te_379_0 te_379_36)
theorem te_379_ok : ∀ pc, e_EOq eft cls elay eI n_379 pc (te_379 pc) := (e_Tok2 (te_379_0_ok) (te_379_36_ok))
theorem ho_380 : (xm_y n_380).cls = "RobotCellHouseModel" := rfl
def dn_380_0_0 : List (Nat × Instr × Nat) := [(0, .iload_n 1, 1), (1, .aload_n 0, 1), (2, .getfield 43, 3), (5, .aload_n 0, 1), (6, .getfield 663, 3), (9, .iaload, 1), (10, .if_icmp .ne 7, 3), (13, .iconst 1, 1), (14, .goto 4, 3), (17, .iconst 0, 1), (18, .istore_n 3, 1), (19, .iconst 0, 1), (20, .istore 4, 2), (22, .iload 4, 2), (24, .aload_n 0, 1), (25, .getfield 43, 3), (28, .aload_n 0, 1), (29, .getfield 663, 3), (32, .iaload, 1), (33, .if_icmp .ge 57, 3), (36, .iload_n 3, 1), (37, .ifCond .eq 53, 3), (40, .aload_n 0, 1), (41, .getfield 222, 3), (44, .iload 4, 2)]
set_option maxRecDepth 20000 in
theorem dn_380_0_0_ok : dn_380_0_0.all (fun q => decide (decode (xm_b n_380) q.1 = .ok (q.2.1, q.2.2))) = true := xa_g_ok (by decide +kernel)
def dn_380_0_1 : List (Nat × Instr × Nat) := [(46, .iaload, 1), (47, .i2l, 1), (48, .aload_n 0, 1), (49, .getfield 49, 3), (52, .bipush 6, 2), (54, .aload_n 0, 1), (55, .getfield 663, 3), (58, .imul, 1), (59, .iload 4, 2), (61, .iadd, 1), (62, .iaload, 1), (63, .i2l, 1), (64, .aload_n 0, 1), (65, .getfield 52, 3), (68, .bipush 6, 2), (70, .aload_n 0, 1), (71, .getfield 663, 3), (74, .imul, 1), (75, .iload 4, 2), (77, .iadd, 1), (78, .iaload, 1), (79, .i2l, 1), (80, .invokestatic 301, 3), (83, .istore_n 3, 1), (84, .iinc 4 1, 3)]
set_option maxRecDepth 20000 in
theorem dn_380_0_1_ok : dn_380_0_1.all (fun q => decide (decode (xm_b n_380) q.1 = .ok (q.2.1, q.2.2))) = true := xa_g_ok (by decide +kernel)
def dn_380_0_2 : List (Nat × Instr × Nat) := [(87, .goto (-65), 3), (90, .aload_n 0, 1), (91, .getfield 663, 3), (94, .invokestatic 294, 3), (97, .istore 4, 2), (99, .iload_n 3, 1), (100, .ifCond .ne 7, 3), (103, .iconst 3, 1), (104, .goto 33, 3), (107, .aload_n 0, 1), (108, .getfield 8, 3), (111, .iload 4, 2), (113, .iconst 0, 1), (114, .iadd, 1), (115, .iaload, 1), (116, .ifCond .eq 7, 3), (119, .iconst 4, 1), (120, .goto 17, 3), (123, .aload_n 0, 1), (124, .getfield 8, 3), (127, .iconst 1, 1), (128, .iaload, 1), (129, .ifCond .ne 7, 3), (132, .iconst 5, 1), (133, .goto 4, 3)]
set_option maxRecDepth 20000 in
theorem dn_380_0_2_ok : dn_380_0_2.all (fun q => decide (decode (xm_b n_380) q.1 = .ok (q.2.1, q.2.2))) = true := xa_g_ok (by decide +kernel)
def dn_380_0_3 : List (Nat × Instr × Nat) := [(136, .iconst 0, 1), (137, .istore 5, 2), (139, .iload 5, 2), (141, .ifCond .eq 10, 3), (144, .aload_n 0, 1), (145, .iload 5, 2), (147, .invokevirtual 672, 3), (150, .return_, 1), (151, .iconst 0, 1), (152, .istore 6, 2), (154, .iload 6, 2), (156, .iload_n 1, 1), (157, .if_icmp .ge 29, 3), (160, .aload_n 0, 1), (161, .getfield 8, 3), (164, .iload 4, 2), (166, .bipush 28, 2), (168, .iadd, 1), (169, .iload 6, 2), (171, .iadd, 1), (172, .aload_n 0, 1), (173, .getfield 222, 3), (176, .iload 6, 2), (178, .iaload, 1), (179, .iastore, 1)]
set_option maxRecDepth 20000 in
theorem dn_380_0_3_ok : dn_380_0_3.all (fun q => decide (decode (xm_b n_380) q.1 = .ok (q.2.1, q.2.2))) = true := xa_g_ok (by decide +kernel)
def dn_380_1_0 : List (Nat × Instr × Nat) := [(180, .iinc 6 1, 3), (183, .goto (-29), 3), (186, .aload_n 0, 1), (187, .aload_n 0, 1), (188, .getfield 663, 3), (191, .invokevirtual 744, 3), (194, .aload_n 0, 1), (195, .getfield 8, 3), (198, .iload 4, 2), (200, .bipush 9, 2), (202, .iadd, 1), (203, .aload_n 0, 1), (204, .getfield 660, 3), (207, .iastore, 1), (208, .aload_n 0, 1), (209, .getfield 8, 3), (212, .aload_n 0, 1), (213, .getfield 651, 3), (216, .iconst 2, 1), (217, .iastore, 1), (218, .aload_n 0, 1), (219, .getfield 8, 3), (222, .aload_n 0, 1), (223, .getfield 651, 3), (226, .bipush 7, 2)]
set_option maxRecDepth 20000 in
theorem dn_380_1_0_ok : dn_380_1_0.all (fun q => decide (decode (xm_b n_380) q.1 = .ok (q.2.1, q.2.2))) = true := xa_g_ok (by decide +kernel)
def dn_380_1_1 : List (Nat × Instr × Nat) := [(228, .iadd, 1), (229, .iconst 0, 1), (230, .iastore, 1), (231, .aload_n 0, 1), (232, .iconst 1, 1), (233, .putfield 669, 3), (236, .aload_n 0, 1), (237, .iload_n 2, 1), (238, .iconst 1, 1), (239, .iadd, 1), (240, .invokevirtual 678, 3), (243, .return_, 1)]
set_option maxRecDepth 20000 in
theorem dn_380_1_1_ok : dn_380_1_1.all (fun q => decide (decode (xm_b n_380) q.1 = .ok (q.2.1, q.2.2))) = true := xa_g_ok (by decide +kernel)
def te_380_0 : Nat → eE := (e_T 28 (e_T 13 (e_T 5 (e_T 1 (e_T 0 (e_L 0 (0, ei_load 1 0 1, 0, 0)) (e_L 1 (0, ei_load 0 2 2, 0, 0))) (e_T 2 (e_L 2 (0, ei_getf eft elay 12 15 5, 0, 0)) (e_L 5 (0, ei_load 0 2 6, 0, 0)))) (e_T 9 (e_T 6 (e_L 6 (0, ei_getf eft elay 12 98 9, 0, 0)) (e_L 9 (0, ei_ald elay false 10, 0, 0))) (e_T 10 (e_L 10 (0, ei_if2 1 17 13, 0, 0)) (e_L 13 (0, ei_push (0, 1) 14, 0, 0))))) (e_T 19 (e_T 17 (e_T 14 (e_L 14 (0, ei_goto 18, 0, 0)) (e_L 17 (0, ei_push (0, 0) 18, 0, 0))) (e_T 18 (e_L 18 (0, ei_stor 3 0 19, 0, 0)) (e_L 19 (0, ei_push (0, 0) 20, 0, 0)))) (e_T 22 (e_T 20 (e_L 20 (0, ei_stor 4 0 22, 0, 0)) (e_L 22 (0, ei_load 4 0 24, 0, 0))) (e_T 24 (e_L 24 (0, ei_load 0 2 25, 0, 0)) (e_T 25 (e_L 25 (0, ei_getf eft elay 12 15 28, 0, 0)) (e_L 28 (0, ei_load 0 2 29, 0, 0))))))) (e_T 44 (e_T 36 (e_T 32 (e_T 29 (e_L 29 (0, ei_getf eft elay 12 98 32, 0, 0)) (e_L 32 (0, ei_ald elay false 33, 0, 0))) (e_T 33 (e_L 33 (0, ei_if2 3 90 36, 0, 0)) (e_L 36 (0, ei_load 3 0 37, 0, 0)))) (e_T 40 (e_T 37 (e_L 37 (0, ei_if1 0 90 40, 0, 0)) (e_L 40 (0, ei_load 0 2 41, 0, 0))) (e_T 41 (e_L 41 (0, ei_getf eft elay 12 101 44, 0, 0)) (e_L 44 (0, ei_load 4 0 46, 0, 0))))) (e_T 49 (e_T 47 (e_T 46 (e_L 46 (0, ei_ald elay false 47, 0, 0)) (e_L 47 (0, ei_un (fun x => (4, x)) 48, 0, 0))) (e_T 48 (e_L 48 (0, ei_load 0 2 49, 0, 0)) (e_L 49 (0, ei_getf eft elay 12 17 52, 0, 0)))) (e_T 54 (e_T 52 (e_L 52 (0, ei_push (0, 6) 54, 0, 0)) (e_L 54 (0, ei_load 0 2 55, 0, 0))) (e_T 55 (e_L 55 (0, ei_getf eft elay 12 98 58, 0, 0)) (e_T 58 (e_L 58 (0, ei_bin eF_mul 59, 0, 0)) (e_L 59 (0, ei_load 4 0 61, 0, 0))))))))
set_option maxRecDepth 20000 in
set_option maxHeartbeats 4000000 in
theorem te_380_0_ok : ∀ pc, e_EOq eft cls elay eI n_380 pc (te_380_0 pc) :=
  (e_Tok2
  (e_Tok2
  (e_Tok2
  (e_Tok2
  (e_Tok2
  (e_Lok (ld_iload_n_1 (x_dk dn_380_0_0_ok 0 rfl)))
  (e_Lok (ld_aload_n_0 (x_dk dn_380_0_0_ok 1 rfl))))
  (e_Tok2
  (e_Lok (lk_12_43g ho_380 (x_dk dn_380_0_0_ok 2 rfl)))
  (e_Lok (ld_aload_n_0 (x_dk dn_380_0_0_ok 3 rfl)))))
  (e_Tok2
  (e_Tok2
  (e_Lok (lk_12_663g ho_380 (x_dk dn_380_0_0_ok 4 rfl)))
  (e_Lok (sm_iaload (x_dk dn_380_0_0_ok 5 rfl))))
  (e_Tok2
  (e_Lok (e_st (I := eI) (er_icmpne (off := 7) (tg := 17) (x_dk dn_380_0_0_ok 6 rfl) (by decide)) nx_if2))
  (e_Lok (ps_iconst_1 (x_dk dn_380_0_0_ok 7 rfl))))))
  (e_Tok2
  (e_Tok2
  (e_Tok2
  (e_Lok (e_st (I := eI) (er_goto (off := 4) (tg := 18) (x_dk dn_380_0_0_ok 8 rfl) (by decide)) nx_goto))
  (e_Lok (ps_iconst_0 (x_dk dn_380_0_0_ok 9 rfl))))
  (e_Tok2
  (e_Lok (e_st (I := eI) (er_istore_n (i := 3) (x_dk dn_380_0_0_ok 10 rfl) (by decide +kernel)) nx_stor))
  (e_Lok (ps_iconst_0 (x_dk dn_380_0_0_ok 11 rfl)))))
  (e_Tok2
  (e_Tok2
  (e_Lok (e_st (I := eI) (er_istore (i := 4) (x_dk dn_380_0_0_ok 12 rfl) (by decide +kernel)) nx_stor))
  (e_Lok (ld_iload_4 (x_dk dn_380_0_0_ok 13 rfl))))
  (e_Tok2
  (e_Lok (ld_aload_n_0 (x_dk dn_380_0_0_ok 14 rfl)))
  (e_Tok2
  (e_Lok (lk_12_43g ho_380 (x_dk dn_380_0_0_ok 15 rfl)))
  (e_Lok (ld_aload_n_0 (x_dk dn_380_0_0_ok 16 rfl))))))))
  (e_Tok2
  (e_Tok2
  (e_Tok2
  (e_Tok2
  (e_Lok (lk_12_663g ho_380 (x_dk dn_380_0_0_ok 17 rfl)))
  (e_Lok (sm_iaload (x_dk dn_380_0_0_ok 18 rfl))))
  (e_Tok2
  (e_Lok (e_st (I := eI) (er_icmpge (off := 57) (tg := 90) (x_dk dn_380_0_0_ok 19 rfl) (by decide)) nx_if2))
  (e_Lok (ld_iload_n_3 (x_dk dn_380_0_0_ok 20 rfl)))))
  (e_Tok2
  (e_Tok2
  (e_Lok (e_st (I := eI) (er_ifeq (off := 53) (tg := 90) (x_dk dn_380_0_0_ok 21 rfl) (by decide)) nx_if1))
  (e_Lok (ld_aload_n_0 (x_dk dn_380_0_0_ok 22 rfl))))
  (e_Tok2
  (e_Lok (lk_12_222g ho_380 (x_dk dn_380_0_0_ok 23 rfl)))
  (e_Lok (ld_iload_4 (x_dk dn_380_0_0_ok 24 rfl))))))
  (e_Tok2
  (e_Tok2
  (e_Tok2
  (e_Lok (sm_iaload (x_dk dn_380_0_1_ok 0 rfl)))
  (e_Lok (e_st (I := eI) (er_i2l (x_dk dn_380_0_1_ok 1 rfl)) (nx_un (fun _ => rfl)))))
  (e_Tok2
  (e_Lok (ld_aload_n_0 (x_dk dn_380_0_1_ok 2 rfl)))
  (e_Lok (lk_12_49g ho_380 (x_dk dn_380_0_1_ok 3 rfl)))))
  (e_Tok2
  (e_Tok2
  (e_Lok (ps_bipush_6 (x_dk dn_380_0_1_ok 4 rfl)))
  (e_Lok (ld_aload_n_0 (x_dk dn_380_0_1_ok 5 rfl))))
  (e_Tok2
  (e_Lok (lk_12_663g ho_380 (x_dk dn_380_0_1_ok 6 rfl)))
  (e_Tok2
  (e_Lok (sm_imul (x_dk dn_380_0_1_ok 7 rfl)))
  (e_Lok (ld_iload_4 (x_dk dn_380_0_1_ok 8 rfl)))))))))
def te_380_34 : Nat → eE := (e_T 87 (e_T 71 (e_T 64 (e_T 62 (e_T 61 (e_L 61 (0, ei_bin eF_add 62, 0, 0)) (e_L 62 (0, ei_ald elay false 63, 0, 0))) (e_T 63 (e_L 63 (0, ei_un (fun x => (4, x)) 64, 0, 0)) (e_L 64 (0, ei_load 0 2 65, 0, 0)))) (e_T 68 (e_T 65 (e_L 65 (0, ei_getf eft elay 12 18 68, 0, 0)) (e_L 68 (0, ei_push (0, 6) 70, 0, 0))) (e_T 70 (e_L 70 (0, ei_load 0 2 71, 0, 0)) (e_L 71 (0, ei_getf eft elay 12 98 74, 0, 0))))) (e_T 78 (e_T 75 (e_T 74 (e_L 74 (0, ei_bin eF_mul 75, 0, 0)) (e_L 75 (0, ei_load 4 0 77, 0, 0))) (e_T 77 (e_L 77 (0, ei_bin eF_add 78, 0, 0)) (e_L 78 (0, ei_ald elay false 79, 0, 0)))) (e_T 80 (e_T 79 (e_L 79 (0, ei_un (fun x => (4, x)) 80, 0, 0)) (e_L 80 (2, e_nof, 266, 3))) (e_T 83 (e_L 83 (0, ei_stor 3 0 84, 0, 0)) (e_T 84 (e_L 84 (0, ei_inc 4 1 87, 0, 0)) (e_L 87 (0, ei_goto 22, 0, 0))))))) (e_T 104 (e_T 97 (e_T 91 (e_T 90 (e_L 90 (0, ei_load 0 2 91, 0, 0)) (e_L 91 (0, ei_getf eft elay 12 98 94, 0, 0))) (e_T 94 (e_L 94 (2, e_nof, 268, 1)) (e_L 97 (0, ei_stor 4 0 99, 0, 0)))) (e_T 100 (e_T 99 (e_L 99 (0, ei_load 3 0 100, 0, 0)) (e_L 100 (0, ei_if1 1 107 103, 0, 0))) (e_T 103 (e_L 103 (0, ei_push (0, 3) 104, 0, 0)) (e_L 104 (0, ei_goto 137, 0, 0))))) (e_T 113 (e_T 108 (e_T 107 (e_L 107 (0, ei_load 0 2 108, 0, 0)) (e_L 108 (0, ei_getf eft elay 12 0 111, 0, 0))) (e_T 111 (e_L 111 (0, ei_load 4 0 113, 0, 0)) (e_L 113 (0, ei_push (0, 0) 114, 0, 0)))) (e_T 115 (e_T 114 (e_L 114 (0, ei_bin eF_add 115, 0, 0)) (e_L 115 (0, ei_ald elay false 116, 0, 0))) (e_T 116 (e_L 116 (0, ei_if1 0 123 119, 0, 0)) (e_T 119 (e_L 119 (0, ei_push (0, 4) 120, 0, 0)) (e_L 120 (0, ei_goto 137, 0, 0))))))))
set_option maxRecDepth 20000 in
set_option maxHeartbeats 4000000 in
theorem te_380_34_ok : ∀ pc, e_EOq eft cls elay eI n_380 pc (te_380_34 pc) :=
  (e_Tok2
  (e_Tok2
  (e_Tok2
  (e_Tok2
  (e_Tok2
  (e_Lok (sm_iadd (x_dk dn_380_0_1_ok 9 rfl)))
  (e_Lok (sm_iaload (x_dk dn_380_0_1_ok 10 rfl))))
  (e_Tok2
  (e_Lok (e_st (I := eI) (er_i2l (x_dk dn_380_0_1_ok 11 rfl)) (nx_un (fun _ => rfl))))
  (e_Lok (ld_aload_n_0 (x_dk dn_380_0_1_ok 12 rfl)))))
  (e_Tok2
  (e_Tok2
  (e_Lok (lk_12_52g ho_380 (x_dk dn_380_0_1_ok 13 rfl)))
  (e_Lok (ps_bipush_6 (x_dk dn_380_0_1_ok 14 rfl))))
  (e_Tok2
  (e_Lok (ld_aload_n_0 (x_dk dn_380_0_1_ok 15 rfl)))
  (e_Lok (lk_12_663g ho_380 (x_dk dn_380_0_1_ok 16 rfl))))))
  (e_Tok2
  (e_Tok2
  (e_Tok2
  (e_Lok (sm_imul (x_dk dn_380_0_1_ok 17 rfl)))
  (e_Lok (ld_iload_4 (x_dk dn_380_0_1_ok 18 rfl))))
  (e_Tok2
  (e_Lok (sm_iadd (x_dk dn_380_0_1_ok 19 rfl)))
  (e_Lok (sm_iaload (x_dk dn_380_0_1_ok 20 rfl)))))
  (e_Tok2
  (e_Tok2
  (e_Lok (e_st (I := eI) (er_i2l (x_dk dn_380_0_1_ok 21 rfl)) (nx_un (fun _ => rfl))))
  (e_Lok (lk_12_301 ho_380 (x_dk dn_380_0_1_ok 22 rfl))))
  (e_Tok2
  (e_Lok (e_st (I := eI) (er_istore_n (i := 3) (x_dk dn_380_0_1_ok 23 rfl) (by decide +kernel)) nx_stor))
  (e_Tok2
  (e_Lok (e_st (I := eI) (er_iinc (i := 4) (n := 1) (x_dk dn_380_0_1_ok 24 rfl) (by decide +kernel) (by decide)) nx_inc))
  (e_Lok (e_st (I := eI) (er_goto (off := (-65)) (tg := 22) (x_dk dn_380_0_2_ok 0 rfl) (by decide)) nx_goto)))))))
  (e_Tok2
  (e_Tok2
  (e_Tok2
  (e_Tok2
  (e_Lok (ld_aload_n_0 (x_dk dn_380_0_2_ok 1 rfl)))
  (e_Lok (lk_12_663g ho_380 (x_dk dn_380_0_2_ok 2 rfl))))
  (e_Tok2
  (e_Lok (lk_12_294 ho_380 (x_dk dn_380_0_2_ok 3 rfl)))
  (e_Lok (e_st (I := eI) (er_istore (i := 4) (x_dk dn_380_0_2_ok 4 rfl) (by decide +kernel)) nx_stor))))
  (e_Tok2
  (e_Tok2
  (e_Lok (ld_iload_n_3 (x_dk dn_380_0_2_ok 5 rfl)))
  (e_Lok (e_st (I := eI) (er_ifne (off := 7) (tg := 107) (x_dk dn_380_0_2_ok 6 rfl) (by decide)) nx_if1)))
  (e_Tok2
  (e_Lok (ps_iconst_3 (x_dk dn_380_0_2_ok 7 rfl)))
  (e_Lok (e_st (I := eI) (er_goto (off := 33) (tg := 137) (x_dk dn_380_0_2_ok 8 rfl) (by decide)) nx_goto)))))
  (e_Tok2
  (e_Tok2
  (e_Tok2
  (e_Lok (ld_aload_n_0 (x_dk dn_380_0_2_ok 9 rfl)))
  (e_Lok (lk_12_8g ho_380 (x_dk dn_380_0_2_ok 10 rfl))))
  (e_Tok2
  (e_Lok (ld_iload_4 (x_dk dn_380_0_2_ok 11 rfl)))
  (e_Lok (ps_iconst_0 (x_dk dn_380_0_2_ok 12 rfl)))))
  (e_Tok2
  (e_Tok2
  (e_Lok (sm_iadd (x_dk dn_380_0_2_ok 13 rfl)))
  (e_Lok (sm_iaload (x_dk dn_380_0_2_ok 14 rfl))))
  (e_Tok2
  (e_Lok (e_st (I := eI) (er_ifeq (off := 7) (tg := 123) (x_dk dn_380_0_2_ok 15 rfl) (by decide)) nx_if1))
  (e_Tok2
  (e_Lok (ps_iconst_4 (x_dk dn_380_0_2_ok 16 rfl)))
  (e_Lok (e_st (I := eI) (er_goto (off := 17) (tg := 137) (x_dk dn_380_0_2_ok 17 rfl) (by decide)) nx_goto))))))))
def te_380_68 : Nat → eE := (e_T 152 (e_T 136 (e_T 128 (e_T 124 (e_T 123 (e_L 123 (0, ei_load 0 2 124, 0, 0)) (e_L 124 (0, ei_getf eft elay 12 0 127, 0, 0))) (e_T 127 (e_L 127 (0, ei_push (0, 1) 128, 0, 0)) (e_L 128 (0, ei_ald elay false 129, 0, 0)))) (e_T 132 (e_T 129 (e_L 129 (0, ei_if1 1 136 132, 0, 0)) (e_L 132 (0, ei_push (0, 5) 133, 0, 0))) (e_T 133 (e_L 133 (0, ei_goto 137, 0, 0)) (e_L 136 (0, ei_push (0, 0) 137, 0, 0))))) (e_T 144 (e_T 139 (e_T 137 (e_L 137 (0, ei_stor 5 0 139, 0, 0)) (e_L 139 (0, ei_load 5 0 141, 0, 0))) (e_T 141 (e_L 141 (0, ei_if1 0 151 144, 0, 0)) (e_L 144 (0, ei_load 0 2 145, 0, 0)))) (e_T 147 (e_T 145 (e_L 145 (0, ei_load 5 0 147, 0, 0)) (e_L 147 (2, e_nof, 369, 2))) (e_T 150 (e_L 150 (1, e_nof, 0, 0)) (e_T 151 (e_L 151 (0, ei_push (0, 0) 152, 0, 0)) (e_L 152 (0, ei_stor 6 0 154, 0, 0))))))) (e_T 168 (e_T 160 (e_T 156 (e_T 154 (e_L 154 (0, ei_load 6 0 156, 0, 0)) (e_L 156 (0, ei_load 1 0 157, 0, 0))) (e_T 157 (e_L 157 (0, ei_if2 3 186 160, 0, 0)) (e_L 160 (0, ei_load 0 2 161, 0, 0)))) (e_T 164 (e_T 161 (e_L 161 (0, ei_getf eft elay 12 0 164, 0, 0)) (e_L 164 (0, ei_load 4 0 166, 0, 0))) (e_T 166 (e_L 166 (0, ei_push (0, 28) 168, 0, 0)) (e_L 168 (0, ei_bin eF_add 169, 0, 0))))) (e_T 173 (e_T 171 (e_T 169 (e_L 169 (0, ei_load 6 0 171, 0, 0)) (e_L 171 (0, ei_bin eF_add 172, 0, 0))) (e_T 172 (e_L 172 (0, ei_load 0 2 173, 0, 0)) (e_L 173 (0, ei_getf eft elay 12 101 176, 0, 0)))) (e_T 178 (e_T 176 (e_L 176 (0, ei_load 6 0 178, 0, 0)) (e_L 178 (0, ei_ald elay false 179, 0, 0))) (e_T 179 (e_L 179 (0, ei_ast elay false 180, 0, 0)) (e_T 180 (e_L 180 (0, ei_inc 6 1 183, 0, 0)) (e_L 183 (0, ei_goto 154, 0, 0))))))))
set_option maxRecDepth 20000 in
set_option maxHeartbeats 4000000 in
theorem te_380_68_ok : ∀ pc, e_EOq eft cls elay eI n_380 pc (te_380_68 pc) :=
  (e_Tok2
  (e_Tok2
  (e_Tok2
  (e_Tok2
  (e_Tok2
  (e_Lok (ld_aload_n_0 (x_dk dn_380_0_2_ok 18 rfl)))
  (e_Lok (lk_12_8g ho_380 (x_dk dn_380_0_2_ok 19 rfl))))
  (e_Tok2
  (e_Lok (ps_iconst_1 (x_dk dn_380_0_2_ok 20 rfl)))
  (e_Lok (sm_iaload (x_dk dn_380_0_2_ok 21 rfl)))))
  (e_Tok2
  (e_Tok2
  (e_Lok (e_st (I := eI) (er_ifne (off := 7) (tg := 136) (x_dk dn_380_0_2_ok 22 rfl) (by decide)) nx_if1))
  (e_Lok (ps_iconst_5 (x_dk dn_380_0_2_ok 23 rfl))))
  (e_Tok2
  (e_Lok (e_st (I := eI) (er_goto (off := 4) (tg := 137) (x_dk dn_380_0_2_ok 24 rfl) (by decide)) nx_goto))
  (e_Lok (ps_iconst_0 (x_dk dn_380_0_3_ok 0 rfl))))))
  (e_Tok2
  (e_Tok2
  (e_Tok2
  (e_Lok (e_st (I := eI) (er_istore (i := 5) (x_dk dn_380_0_3_ok 1 rfl) (by decide +kernel)) nx_stor))
  (e_Lok (ld_iload_5 (x_dk dn_380_0_3_ok 2 rfl))))
  (e_Tok2
  (e_Lok (e_st (I := eI) (er_ifeq (off := 10) (tg := 151) (x_dk dn_380_0_3_ok 3 rfl) (by decide)) nx_if1))
  (e_Lok (ld_aload_n_0 (x_dk dn_380_0_3_ok 4 rfl)))))
  (e_Tok2
  (e_Tok2
  (e_Lok (ld_iload_5 (x_dk dn_380_0_3_ok 5 rfl)))
  (e_Lok (lk_12_672 ho_380 (x_dk dn_380_0_3_ok 6 rfl))))
  (e_Tok2
  (e_Lok (e_rt (I := eI) (k := 0) ⟨(x_dk dn_380_0_3_ok 7 rfl), rfl⟩))
  (e_Tok2
  (e_Lok (ps_iconst_0 (x_dk dn_380_0_3_ok 8 rfl)))
  (e_Lok (e_st (I := eI) (er_istore (i := 6) (x_dk dn_380_0_3_ok 9 rfl) (by decide +kernel)) nx_stor)))))))
  (e_Tok2
  (e_Tok2
  (e_Tok2
  (e_Tok2
  (e_Lok (ld_iload_6 (x_dk dn_380_0_3_ok 10 rfl)))
  (e_Lok (ld_iload_n_1 (x_dk dn_380_0_3_ok 11 rfl))))
  (e_Tok2
  (e_Lok (e_st (I := eI) (er_icmpge (off := 29) (tg := 186) (x_dk dn_380_0_3_ok 12 rfl) (by decide)) nx_if2))
  (e_Lok (ld_aload_n_0 (x_dk dn_380_0_3_ok 13 rfl)))))
  (e_Tok2
  (e_Tok2
  (e_Lok (lk_12_8g ho_380 (x_dk dn_380_0_3_ok 14 rfl)))
  (e_Lok (ld_iload_4 (x_dk dn_380_0_3_ok 15 rfl))))
  (e_Tok2
  (e_Lok (ps_bipush_28 (x_dk dn_380_0_3_ok 16 rfl)))
  (e_Lok (sm_iadd (x_dk dn_380_0_3_ok 17 rfl))))))
  (e_Tok2
  (e_Tok2
  (e_Tok2
  (e_Lok (ld_iload_6 (x_dk dn_380_0_3_ok 18 rfl)))
  (e_Lok (sm_iadd (x_dk dn_380_0_3_ok 19 rfl))))
  (e_Tok2
  (e_Lok (ld_aload_n_0 (x_dk dn_380_0_3_ok 20 rfl)))
  (e_Lok (lk_12_222g ho_380 (x_dk dn_380_0_3_ok 21 rfl)))))
  (e_Tok2
  (e_Tok2
  (e_Lok (ld_iload_6 (x_dk dn_380_0_3_ok 22 rfl)))
  (e_Lok (sm_iaload (x_dk dn_380_0_3_ok 23 rfl))))
  (e_Tok2
  (e_Lok (sm_iastore (x_dk dn_380_0_3_ok 24 rfl)))
  (e_Tok2
  (e_Lok (e_st (I := eI) (er_iinc (i := 6) (n := 1) (x_dk dn_380_1_0_ok 0 rfl) (by decide +kernel) (by decide)) nx_inc))
  (e_Lok (e_st (I := eI) (er_goto (off := (-29)) (tg := 154) (x_dk dn_380_1_0_ok 1 rfl) (by decide)) nx_goto))))))))
def te_380_102 : Nat → eE := (e_T 216 (e_T 200 (e_T 191 (e_T 187 (e_T 186 (e_L 186 (0, ei_load 0 2 187, 0, 0)) (e_L 187 (0, ei_load 0 2 188, 0, 0))) (e_T 188 (e_L 188 (0, ei_getf eft elay 12 98 191, 0, 0)) (e_L 191 (2, e_nof, 381, 2)))) (e_T 195 (e_T 194 (e_L 194 (0, ei_load 0 2 195, 0, 0)) (e_L 195 (0, ei_getf eft elay 12 0 198, 0, 0))) (e_T 198 (e_L 198 (0, ei_load 4 0 200, 0, 0)) (e_L 200 (0, ei_push (0, 9) 202, 0, 0))))) (e_T 207 (e_T 203 (e_T 202 (e_L 202 (0, ei_bin eF_add 203, 0, 0)) (e_L 203 (0, ei_load 0 2 204, 0, 0))) (e_T 204 (e_L 204 (0, ei_getf eft elay 12 96 207, 0, 0)) (e_L 207 (0, ei_ast elay false 208, 0, 0)))) (e_T 209 (e_T 208 (e_L 208 (0, ei_load 0 2 209, 0, 0)) (e_L 209 (0, ei_getf eft elay 12 0 212, 0, 0))) (e_T 212 (e_L 212 (0, ei_load 0 2 213, 0, 0)) (e_T 213 (e_L 213 (0, ei_getf eft elay 12 97 216, 0, 0)) (e_L 216 (0, ei_push (0, 2) 217, 0, 0))))))) (e_T 230 (e_T 222 (e_T 218 (e_T 217 (e_L 217 (0, ei_ast elay false 218, 0, 0)) (e_L 218 (0, ei_load 0 2 219, 0, 0))) (e_T 219 (e_L 219 (0, ei_getf eft elay 12 0 222, 0, 0)) (e_L 222 (0, ei_load 0 2 223, 0, 0)))) (e_T 226 (e_T 223 (e_L 223 (0, ei_getf eft elay 12 97 226, 0, 0)) (e_L 226 (0, ei_push (0, 7) 228, 0, 0))) (e_T 228 (e_L 228 (0, ei_bin eF_add 229, 0, 0)) (e_T 229 (e_L 229 (0, ei_push (0, 0) 230, 0, 0)) (e_L 230 (0, ei_ast elay false 231, 0, 0)))))) (e_T 236 (e_T 232 (e_T 231 (e_L 231 (0, ei_load 0 2 232, 0, 0)) (e_L 232 (0, ei_push (0, 1) 233, 0, 0))) (e_T 233 (e_L 233 (0, ei_putf eft elay 12 100 1 236, 0, 0)) (e_L 236 (0, ei_load 0 2 237, 0, 0)))) (e_T 238 (e_T 237 (e_L 237 (0, ei_load 2 0 238, 0, 0)) (e_L 238 (0, ei_push (0, 1) 239, 0, 0))) (e_T 239 (e_L 239 (0, ei_bin eF_add 240, 0, 0)) (e_T 240 (e_L 240 (2, e_nof, 365, 2)) (e_L 243 (1, e_nof, 0, 0))))))))
set_option maxRecDepth 20000 in
set_option maxHeartbeats 4000000 in
theorem te_380_102_ok : ∀ pc, e_EOq eft cls elay eI n_380 pc (te_380_102 pc) :=
  (e_Tok2
  (e_Tok2
  (e_Tok2
  (e_Tok2
  (e_Tok2
  (e_Lok (ld_aload_n_0 (x_dk dn_380_1_0_ok 2 rfl)))
  (e_Lok (ld_aload_n_0 (x_dk dn_380_1_0_ok 3 rfl))))
  (e_Tok2
  (e_Lok (lk_12_663g ho_380 (x_dk dn_380_1_0_ok 4 rfl)))
  (e_Lok (lk_12_744 ho_380 (x_dk dn_380_1_0_ok 5 rfl)))))
  (e_Tok2
  (e_Tok2
  (e_Lok (ld_aload_n_0 (x_dk dn_380_1_0_ok 6 rfl)))
  (e_Lok (lk_12_8g ho_380 (x_dk dn_380_1_0_ok 7 rfl))))
  (e_Tok2
  (e_Lok (ld_iload_4 (x_dk dn_380_1_0_ok 8 rfl)))
  (e_Lok (ps_bipush_9 (x_dk dn_380_1_0_ok 9 rfl))))))
  (e_Tok2
  (e_Tok2
  (e_Tok2
  (e_Lok (sm_iadd (x_dk dn_380_1_0_ok 10 rfl)))
  (e_Lok (ld_aload_n_0 (x_dk dn_380_1_0_ok 11 rfl))))
  (e_Tok2
  (e_Lok (lk_12_660g ho_380 (x_dk dn_380_1_0_ok 12 rfl)))
  (e_Lok (sm_iastore (x_dk dn_380_1_0_ok 13 rfl)))))
  (e_Tok2
  (e_Tok2
  (e_Lok (ld_aload_n_0 (x_dk dn_380_1_0_ok 14 rfl)))
  (e_Lok (lk_12_8g ho_380 (x_dk dn_380_1_0_ok 15 rfl))))
  (e_Tok2
  (e_Lok (ld_aload_n_0 (x_dk dn_380_1_0_ok 16 rfl)))
  (e_Tok2
  (e_Lok (lk_12_651g ho_380 (x_dk dn_380_1_0_ok 17 rfl)))
  (e_Lok (ps_iconst_2 (x_dk dn_380_1_0_ok 18 rfl))))))))
  (e_Tok2
  (e_Tok2
  (e_Tok2
  (e_Tok2
  (e_Lok (sm_iastore (x_dk dn_380_1_0_ok 19 rfl)))
  (e_Lok (ld_aload_n_0 (x_dk dn_380_1_0_ok 20 rfl))))
  (e_Tok2
  (e_Lok (lk_12_8g ho_380 (x_dk dn_380_1_0_ok 21 rfl)))
  (e_Lok (ld_aload_n_0 (x_dk dn_380_1_0_ok 22 rfl)))))
  (e_Tok2
  (e_Tok2
  (e_Lok (lk_12_651g ho_380 (x_dk dn_380_1_0_ok 23 rfl)))
  (e_Lok (ps_bipush_7 (x_dk dn_380_1_0_ok 24 rfl))))
  (e_Tok2
  (e_Lok (sm_iadd (x_dk dn_380_1_1_ok 0 rfl)))
  (e_Tok2
  (e_Lok (ps_iconst_0 (x_dk dn_380_1_1_ok 1 rfl)))
  (e_Lok (sm_iastore (x_dk dn_380_1_1_ok 2 rfl)))))))
  (e_Tok2
  (e_Tok2
  (e_Tok2
  (e_Lok (ld_aload_n_0 (x_dk dn_380_1_1_ok 3 rfl)))
  (e_Lok (ps_iconst_1 (x_dk dn_380_1_1_ok 4 rfl))))
  (e_Tok2
  (e_Lok (lk_12_669p ho_380 (x_dk dn_380_1_1_ok 5 rfl)))
  (e_Lok (ld_aload_n_0 (x_dk dn_380_1_1_ok 6 rfl)))))
  (e_Tok2
  (e_Tok2
  (e_Lok (ld_iload_n_2 (x_dk dn_380_1_1_ok 7 rfl)))
  (e_Lok (ps_iconst_1 (x_dk dn_380_1_1_ok 8 rfl))))
  (e_Tok2
  (e_Lok (sm_iadd (x_dk dn_380_1_1_ok 9 rfl)))
  (e_Tok2
  (e_Lok (lk_12_678 ho_380 (x_dk dn_380_1_1_ok 10 rfl)))
  (e_Lok (e_rt (I := eI) (k := 0) ⟨(x_dk dn_380_1_1_ok 11 rfl), rfl⟩))))))))
def te_380 : Nat → eE := (e_T 120 (e_T 59 te_380_0 te_380_34) (e_T 183 te_380_68 te_380_102))
theorem te_380_ok : ∀ pc, e_EOq eft cls elay eI n_380 pc (te_380 pc) := (e_Tok2 ((e_Tok2 (te_380_0_ok) (te_380_34_ok))) ((e_Tok2 (te_380_68_ok) (te_380_102_ok))))
theorem ho_381 : (xm_y n_381).cls = "RobotCellHouseModel" := rfl
def dn_381_0_0 : List (Nat × Instr × Nat) := [(0, .iload_n 1, 1), (1, .invokestatic 294, 3), (4, .istore_n 2, 1), (5, .aload_n 0, 1), (6, .getfield 8, 3), (9, .iload_n 2, 1), (10, .iconst 0, 1), (11, .iadd, 1), (12, .iconst 1, 1), (13, .iastore, 1), (14, .aload_n 0, 1), (15, .getfield 8, 3), (18, .iload_n 2, 1), (19, .bipush 8, 2), (21, .iadd, 1), (22, .iconst 0, 1), (23, .iastore, 1), (24, .aload_n 0, 1), (25, .getfield 8, 3), (28, .iload_n 2, 1), (29, .bipush 9, 2), (31, .iadd, 1), (32, .iconst (-1), 1), (33, .iastore, 1), (34, .iconst 0, 1)]
set_option maxRecDepth 20000 in
theorem dn_381_0_0_ok : dn_381_0_0.all (fun q => decide (decode (xm_b n_381) q.1 = .ok (q.2.1, q.2.2))) = true := xa_g_ok (by decide +kernel)
def dn_381_0_1 : List (Nat × Instr × Nat) := [(35, .istore_n 3, 1), (36, .iconst 0, 1), (37, .istore 4, 2), (39, .iload 4, 2), (41, .aload_n 0, 1), (42, .getfield 43, 3), (45, .iload_n 1, 1), (46, .iaload, 1), (47, .if_icmp .ge 91, 3), (50, .aload_n 0, 1), (51, .getfield 8, 3), (54, .iload_n 2, 1), (55, .bipush 28, 2), (57, .iadd, 1), (58, .iload 4, 2), (60, .iadd, 1), (61, .iaload, 1), (62, .aload_n 0, 1), (63, .getfield 8, 3), (66, .iload_n 2, 1), (67, .bipush 16, 2), (69, .iadd, 1), (70, .iload 4, 2), (72, .iadd, 1), (73, .iaload, 1)]
set_option maxRecDepth 20000 in
theorem dn_381_0_1_ok : dn_381_0_1.all (fun q => decide (decode (xm_b n_381) q.1 = .ok (q.2.1, q.2.2))) = true := xa_g_ok (by decide +kernel)
def dn_381_0_2 : List (Nat × Instr × Nat) := [(74, .isub, 1), (75, .istore 5, 2), (77, .iload 5, 2), (79, .ifCond .ge 9, 3), (82, .iload 5, 2), (84, .ineg, 1), (85, .goto 5, 3), (88, .iload 5, 2), (90, .aload_n 0, 1), (91, .getfield 55, 3), (94, .bipush 6, 2), (96, .iload_n 1, 1), (97, .imul, 1), (98, .iload 4, 2), (100, .iadd, 1), (101, .iaload, 1), (102, .aload_n 0, 1), (103, .getfield 58, 3), (106, .bipush 6, 2), (108, .iload_n 1, 1), (109, .imul, 1), (110, .iload 4, 2), (112, .iadd, 1), (113, .iaload, 1), (114, .invokestatic 747, 3)]
set_option maxRecDepth 20000 in
theorem dn_381_0_2_ok : dn_381_0_2.all (fun q => decide (decode (xm_b n_381) q.1 = .ok (q.2.1, q.2.2))) = true := xa_g_ok (by decide +kernel)
def dn_381_0_3 : List (Nat × Instr × Nat) := [(117, .istore 6, 2), (119, .iload 6, 2), (121, .iload_n 3, 1), (122, .if_icmp .le 8, 3), (125, .iload 6, 2), (127, .goto 4, 3), (130, .iload_n 3, 1), (131, .istore_n 3, 1), (132, .iinc 4 1, 3), (135, .goto (-96), 3), (138, .aload_n 0, 1), (139, .getfield 8, 3), (142, .iload_n 2, 1), (143, .bipush 11, 2), (145, .iadd, 1), (146, .iload_n 3, 1), (147, .iastore, 1), (148, .return_, 1)]
set_option maxRecDepth 20000 in
theorem dn_381_0_3_ok : dn_381_0_3.all (fun q => decide (decode (xm_b n_381) q.1 = .ok (q.2.1, q.2.2))) = true := xa_g_ok (by decide +kernel)
def te_381_0 : Nat → eE := (e_T 14 (e_T 6 (e_T 1 (e_T 0 (e_L 0 (0, ei_load 1 0 1, 0, 0)) (e_L 1 (2, e_nof, 268, 1))) (e_T 4 (e_L 4 (0, ei_stor 2 0 5, 0, 0)) (e_T 5 (e_L 5 (0, ei_load 0 2 6, 0, 0)) (e_L 6 (0, ei_getf eft elay 12 0 9, 0, 0))))) (e_T 11 (e_T 9 (e_L 9 (0, ei_load 2 0 10, 0, 0)) (e_T 10 (e_L 10 (0, ei_push (0, 0) 11, 0, 0)) (e_L 11 (0, ei_bin eF_add 12, 0, 0)))) (e_T 12 (e_L 12 (0, ei_push (0, 1) 13, 0, 0)) (e_T 13 (e_L 13 (0, ei_ast elay false 14, 0, 0)) (e_L 14 (0, ei_load 0 2 15, 0, 0)))))) (e_T 23 (e_T 19 (e_T 15 (e_L 15 (0, ei_getf eft elay 12 0 18, 0, 0)) (e_T 18 (e_L 18 (0, ei_load 2 0 19, 0, 0)) (e_L 19 (0, ei_push (0, 8) 21, 0, 0)))) (e_T 21 (e_L 21 (0, ei_bin eF_add 22, 0, 0)) (e_T 22 (e_L 22 (0, ei_push (0, 0) 23, 0, 0)) (e_L 23 (0, ei_ast elay false 24, 0, 0))))) (e_T 28 (e_T 24 (e_L 24 (0, ei_load 0 2 25, 0, 0)) (e_T 25 (e_L 25 (0, ei_getf eft elay 12 0 28, 0, 0)) (e_L 28 (0, ei_load 2 0 29, 0, 0)))) (e_T 29 (e_L 29 (0, ei_push (0, 9) 31, 0, 0)) (e_T 31 (e_L 31 (0, ei_bin eF_add 32, 0, 0)) (e_L 32 (0, ei_push (0, (-1)) 33, 0, 0)))))))
set_option maxRecDepth 20000 in
set_option maxHeartbeats 4000000 in
theorem te_381_0_ok : ∀ pc, e_EOq eft cls elay eI n_381 pc (te_381_0 pc) :=
  (e_Tok2
  (e_Tok2
  (e_Tok2
  (e_Tok2
  (e_Lok (ld_iload_n_1 (x_dk dn_381_0_0_ok 0 rfl)))
  (e_Lok (lk_12_294 ho_381 (x_dk dn_381_0_0_ok 1 rfl))))
  (e_Tok2
  (e_Lok (e_st (I := eI) (er_istore_n (i := 2) (x_dk dn_381_0_0_ok 2 rfl) (by decide +kernel)) nx_stor))
  (e_Tok2
  (e_Lok (ld_aload_n_0 (x_dk dn_381_0_0_ok 3 rfl)))
  (e_Lok (lk_12_8g ho_381 (x_dk dn_381_0_0_ok 4 rfl))))))
  (e_Tok2
  (e_Tok2
  (e_Lok (ld_iload_n_2 (x_dk dn_381_0_0_ok 5 rfl)))
  (e_Tok2
  (e_Lok (ps_iconst_0 (x_dk dn_381_0_0_ok 6 rfl)))
  (e_Lok (sm_iadd (x_dk dn_381_0_0_ok 7 rfl)))))
  (e_Tok2
  (e_Lok (ps_iconst_1 (x_dk dn_381_0_0_ok 8 rfl)))
  (e_Tok2
  (e_Lok (sm_iastore (x_dk dn_381_0_0_ok 9 rfl)))
  (e_Lok (ld_aload_n_0 (x_dk dn_381_0_0_ok 10 rfl)))))))
  (e_Tok2
  (e_Tok2
  (e_Tok2
  (e_Lok (lk_12_8g ho_381 (x_dk dn_381_0_0_ok 11 rfl)))
  (e_Tok2
  (e_Lok (ld_iload_n_2 (x_dk dn_381_0_0_ok 12 rfl)))
  (e_Lok (ps_bipush_8 (x_dk dn_381_0_0_ok 13 rfl)))))
  (e_Tok2
  (e_Lok (sm_iadd (x_dk dn_381_0_0_ok 14 rfl)))
  (e_Tok2
  (e_Lok (ps_iconst_0 (x_dk dn_381_0_0_ok 15 rfl)))
  (e_Lok (sm_iastore (x_dk dn_381_0_0_ok 16 rfl))))))
  (e_Tok2
  (e_Tok2
  (e_Lok (ld_aload_n_0 (x_dk dn_381_0_0_ok 17 rfl)))
  (e_Tok2
  (e_Lok (lk_12_8g ho_381 (x_dk dn_381_0_0_ok 18 rfl)))
  (e_Lok (ld_iload_n_2 (x_dk dn_381_0_0_ok 19 rfl)))))
  (e_Tok2
  (e_Lok (ps_bipush_9 (x_dk dn_381_0_0_ok 20 rfl)))
  (e_Tok2
  (e_Lok (sm_iadd (x_dk dn_381_0_0_ok 21 rfl)))
  (e_Lok (ps_iconst_m1 (x_dk dn_381_0_0_ok 22 rfl))))))))
def te_381_23 : Nat → eE := (e_T 47 (e_T 37 (e_T 34 (e_T 33 (e_L 33 (0, ei_ast elay false 34, 0, 0)) (e_L 34 (0, ei_push (0, 0) 35, 0, 0))) (e_T 35 (e_L 35 (0, ei_stor 3 0 36, 0, 0)) (e_T 36 (e_L 36 (0, ei_push (0, 0) 37, 0, 0)) (e_L 37 (0, ei_stor 4 0 39, 0, 0))))) (e_T 42 (e_T 39 (e_L 39 (0, ei_load 4 0 41, 0, 0)) (e_T 41 (e_L 41 (0, ei_load 0 2 42, 0, 0)) (e_L 42 (0, ei_getf eft elay 12 15 45, 0, 0)))) (e_T 45 (e_L 45 (0, ei_load 1 0 46, 0, 0)) (e_T 46 (e_L 46 (0, ei_ald elay false 47, 0, 0)) (e_L 47 (0, ei_if2 3 138 50, 0, 0)))))) (e_T 58 (e_T 54 (e_T 50 (e_L 50 (0, ei_load 0 2 51, 0, 0)) (e_T 51 (e_L 51 (0, ei_getf eft elay 12 0 54, 0, 0)) (e_L 54 (0, ei_load 2 0 55, 0, 0)))) (e_T 55 (e_L 55 (0, ei_push (0, 28) 57, 0, 0)) (e_T 57 (e_L 57 (0, ei_bin eF_add 58, 0, 0)) (e_L 58 (0, ei_load 4 0 60, 0, 0))))) (e_T 62 (e_T 60 (e_L 60 (0, ei_bin eF_add 61, 0, 0)) (e_T 61 (e_L 61 (0, ei_ald elay false 62, 0, 0)) (e_L 62 (0, ei_load 0 2 63, 0, 0)))) (e_T 63 (e_L 63 (0, ei_getf eft elay 12 0 66, 0, 0)) (e_T 66 (e_L 66 (0, ei_load 2 0 67, 0, 0)) (e_L 67 (0, ei_push (0, 16) 69, 0, 0)))))))
set_option maxRecDepth 20000 in
set_option maxHeartbeats 4000000 in
theorem te_381_23_ok : ∀ pc, e_EOq eft cls elay eI n_381 pc (te_381_23 pc) :=
  (e_Tok2
  (e_Tok2
  (e_Tok2
  (e_Tok2
  (e_Lok (sm_iastore (x_dk dn_381_0_0_ok 23 rfl)))
  (e_Lok (ps_iconst_0 (x_dk dn_381_0_0_ok 24 rfl))))
  (e_Tok2
  (e_Lok (e_st (I := eI) (er_istore_n (i := 3) (x_dk dn_381_0_1_ok 0 rfl) (by decide +kernel)) nx_stor))
  (e_Tok2
  (e_Lok (ps_iconst_0 (x_dk dn_381_0_1_ok 1 rfl)))
  (e_Lok (e_st (I := eI) (er_istore (i := 4) (x_dk dn_381_0_1_ok 2 rfl) (by decide +kernel)) nx_stor)))))
  (e_Tok2
  (e_Tok2
  (e_Lok (ld_iload_4 (x_dk dn_381_0_1_ok 3 rfl)))
  (e_Tok2
  (e_Lok (ld_aload_n_0 (x_dk dn_381_0_1_ok 4 rfl)))
  (e_Lok (lk_12_43g ho_381 (x_dk dn_381_0_1_ok 5 rfl)))))
  (e_Tok2
  (e_Lok (ld_iload_n_1 (x_dk dn_381_0_1_ok 6 rfl)))
  (e_Tok2
  (e_Lok (sm_iaload (x_dk dn_381_0_1_ok 7 rfl)))
  (e_Lok (e_st (I := eI) (er_icmpge (off := 91) (tg := 138) (x_dk dn_381_0_1_ok 8 rfl) (by decide)) nx_if2))))))
  (e_Tok2
  (e_Tok2
  (e_Tok2
  (e_Lok (ld_aload_n_0 (x_dk dn_381_0_1_ok 9 rfl)))
  (e_Tok2
  (e_Lok (lk_12_8g ho_381 (x_dk dn_381_0_1_ok 10 rfl)))
  (e_Lok (ld_iload_n_2 (x_dk dn_381_0_1_ok 11 rfl)))))
  (e_Tok2
  (e_Lok (ps_bipush_28 (x_dk dn_381_0_1_ok 12 rfl)))
  (e_Tok2
  (e_Lok (sm_iadd (x_dk dn_381_0_1_ok 13 rfl)))
  (e_Lok (ld_iload_4 (x_dk dn_381_0_1_ok 14 rfl))))))
  (e_Tok2
  (e_Tok2
  (e_Lok (sm_iadd (x_dk dn_381_0_1_ok 15 rfl)))
  (e_Tok2
  (e_Lok (sm_iaload (x_dk dn_381_0_1_ok 16 rfl)))
  (e_Lok (ld_aload_n_0 (x_dk dn_381_0_1_ok 17 rfl)))))
  (e_Tok2
  (e_Lok (lk_12_8g ho_381 (x_dk dn_381_0_1_ok 18 rfl)))
  (e_Tok2
  (e_Lok (ld_iload_n_2 (x_dk dn_381_0_1_ok 19 rfl)))
  (e_Lok (ps_bipush_16 (x_dk dn_381_0_1_ok 20 rfl))))))))
def te_381_46 : Nat → eE := (e_T 85 (e_T 74 (e_T 70 (e_T 69 (e_L 69 (0, ei_bin eF_add 70, 0, 0)) (e_L 70 (0, ei_load 4 0 72, 0, 0))) (e_T 72 (e_L 72 (0, ei_bin eF_add 73, 0, 0)) (e_T 73 (e_L 73 (0, ei_ald elay false 74, 0, 0)) (e_L 74 (0, ei_bin eF_sub 75, 0, 0))))) (e_T 79 (e_T 75 (e_L 75 (0, ei_stor 5 0 77, 0, 0)) (e_T 77 (e_L 77 (0, ei_load 5 0 79, 0, 0)) (e_L 79 (0, ei_if1 3 88 82, 0, 0)))) (e_T 82 (e_L 82 (0, ei_load 5 0 84, 0, 0)) (e_T 84 (e_L 84 (0, ei_un (fun x => (0, e32 (-x))) 85, 0, 0)) (e_L 85 (0, ei_goto 90, 0, 0)))))) (e_T 97 (e_T 91 (e_T 88 (e_L 88 (0, ei_load 5 0 90, 0, 0)) (e_T 90 (e_L 90 (0, ei_load 0 2 91, 0, 0)) (e_L 91 (0, ei_getf eft elay 12 19 94, 0, 0)))) (e_T 94 (e_L 94 (0, ei_push (0, 6) 96, 0, 0)) (e_T 96 (e_L 96 (0, ei_load 1 0 97, 0, 0)) (e_L 97 (0, ei_bin eF_mul 98, 0, 0))))) (e_T 101 (e_T 98 (e_L 98 (0, ei_load 4 0 100, 0, 0)) (e_T 100 (e_L 100 (0, ei_bin eF_add 101, 0, 0)) (e_L 101 (0, ei_ald elay false 102, 0, 0)))) (e_T 102 (e_L 102 (0, ei_load 0 2 103, 0, 0)) (e_T 103 (e_L 103 (0, ei_getf eft elay 12 20 106, 0, 0)) (e_L 106 (0, ei_push (0, 6) 108, 0, 0)))))))
set_option maxRecDepth 20000 in
set_option maxHeartbeats 4000000 in
theorem te_381_46_ok : ∀ pc, e_EOq eft cls elay eI n_381 pc (te_381_46 pc) :=
  (e_Tok2
  (e_Tok2
  (e_Tok2
  (e_Tok2
  (e_Lok (sm_iadd (x_dk dn_381_0_1_ok 21 rfl)))
  (e_Lok (ld_iload_4 (x_dk dn_381_0_1_ok 22 rfl))))
  (e_Tok2
  (e_Lok (sm_iadd (x_dk dn_381_0_1_ok 23 rfl)))
  (e_Tok2
  (e_Lok (sm_iaload (x_dk dn_381_0_1_ok 24 rfl)))
  (e_Lok (sm_isub (x_dk dn_381_0_2_ok 0 rfl))))))
  (e_Tok2
  (e_Tok2
  (e_Lok (e_st (I := eI) (er_istore (i := 5) (x_dk dn_381_0_2_ok 1 rfl) (by decide +kernel)) nx_stor))
  (e_Tok2
  (e_Lok (ld_iload_5 (x_dk dn_381_0_2_ok 2 rfl)))
  (e_Lok (e_st (I := eI) (er_ifge (off := 9) (tg := 88) (x_dk dn_381_0_2_ok 3 rfl) (by decide)) nx_if1))))
  (e_Tok2
  (e_Lok (ld_iload_5 (x_dk dn_381_0_2_ok 4 rfl)))
  (e_Tok2
  (e_Lok (e_st (I := eI) (er_ineg (x_dk dn_381_0_2_ok 5 rfl)) (nx_un (fun _ => rfl))))
  (e_Lok (e_st (I := eI) (er_goto (off := 5) (tg := 90) (x_dk dn_381_0_2_ok 6 rfl) (by decide)) nx_goto))))))
  (e_Tok2
  (e_Tok2
  (e_Tok2
  (e_Lok (ld_iload_5 (x_dk dn_381_0_2_ok 7 rfl)))
  (e_Tok2
  (e_Lok (ld_aload_n_0 (x_dk dn_381_0_2_ok 8 rfl)))
  (e_Lok (lk_12_55g ho_381 (x_dk dn_381_0_2_ok 9 rfl)))))
  (e_Tok2
  (e_Lok (ps_bipush_6 (x_dk dn_381_0_2_ok 10 rfl)))
  (e_Tok2
  (e_Lok (ld_iload_n_1 (x_dk dn_381_0_2_ok 11 rfl)))
  (e_Lok (sm_imul (x_dk dn_381_0_2_ok 12 rfl))))))
  (e_Tok2
  (e_Tok2
  (e_Lok (ld_iload_4 (x_dk dn_381_0_2_ok 13 rfl)))
  (e_Tok2
  (e_Lok (sm_iadd (x_dk dn_381_0_2_ok 14 rfl)))
  (e_Lok (sm_iaload (x_dk dn_381_0_2_ok 15 rfl)))))
  (e_Tok2
  (e_Lok (ld_aload_n_0 (x_dk dn_381_0_2_ok 16 rfl)))
  (e_Tok2
  (e_Lok (lk_12_58g ho_381 (x_dk dn_381_0_2_ok 17 rfl)))
  (e_Lok (ps_bipush_6 (x_dk dn_381_0_2_ok 18 rfl))))))))
def te_381_69 : Nat → eE := (e_T 127 (e_T 114 (e_T 110 (e_T 108 (e_L 108 (0, ei_load 1 0 109, 0, 0)) (e_T 109 (e_L 109 (0, ei_bin eF_mul 110, 0, 0)) (e_L 110 (0, ei_load 4 0 112, 0, 0)))) (e_T 112 (e_L 112 (0, ei_bin eF_add 113, 0, 0)) (e_T 113 (e_L 113 (0, ei_ald elay false 114, 0, 0)) (e_L 114 (2, e_nof, 382, 3))))) (e_T 121 (e_T 117 (e_L 117 (0, ei_stor 6 0 119, 0, 0)) (e_T 119 (e_L 119 (0, ei_load 6 0 121, 0, 0)) (e_L 121 (0, ei_load 3 0 122, 0, 0)))) (e_T 122 (e_L 122 (0, ei_if2 5 130 125, 0, 0)) (e_T 125 (e_L 125 (0, ei_load 6 0 127, 0, 0)) (e_L 127 (0, ei_goto 131, 0, 0)))))) (e_T 139 (e_T 132 (e_T 130 (e_L 130 (0, ei_load 3 0 131, 0, 0)) (e_T 131 (e_L 131 (0, ei_stor 3 0 132, 0, 0)) (e_L 132 (0, ei_inc 4 1 135, 0, 0)))) (e_T 135 (e_L 135 (0, ei_goto 39, 0, 0)) (e_T 138 (e_L 138 (0, ei_load 0 2 139, 0, 0)) (e_L 139 (0, ei_getf eft elay 12 0 142, 0, 0))))) (e_T 145 (e_T 142 (e_L 142 (0, ei_load 2 0 143, 0, 0)) (e_T 143 (e_L 143 (0, ei_push (0, 11) 145, 0, 0)) (e_L 145 (0, ei_bin eF_add 146, 0, 0)))) (e_T 146 (e_L 146 (0, ei_load 3 0 147, 0, 0)) (e_T 147 (e_L 147 (0, ei_ast elay false 148, 0, 0)) (e_L 148 (1, e_nof, 0, 0)))))))
set_option maxRecDepth 20000 in
set_option maxHeartbeats 4000000 in
theorem te_381_69_ok : ∀ pc, e_EOq eft cls elay eI n_381 pc (te_381_69 pc) :=
  (e_Tok2
  (e_Tok2
  (e_Tok2
  (e_Tok2
  (e_Lok (ld_iload_n_1 (x_dk dn_381_0_2_ok 19 rfl)))
  (e_Tok2
  (e_Lok (sm_imul (x_dk dn_381_0_2_ok 20 rfl)))
  (e_Lok (ld_iload_4 (x_dk dn_381_0_2_ok 21 rfl)))))
  (e_Tok2
  (e_Lok (sm_iadd (x_dk dn_381_0_2_ok 22 rfl)))
  (e_Tok2
  (e_Lok (sm_iaload (x_dk dn_381_0_2_ok 23 rfl)))
  (e_Lok (lk_12_747 ho_381 (x_dk dn_381_0_2_ok 24 rfl))))))
  (e_Tok2
  (e_Tok2
  (e_Lok (e_st (I := eI) (er_istore (i := 6) (x_dk dn_381_0_3_ok 0 rfl) (by decide +kernel)) nx_stor))
  (e_Tok2
  (e_Lok (ld_iload_6 (x_dk dn_381_0_3_ok 1 rfl)))
  (e_Lok (ld_iload_n_3 (x_dk dn_381_0_3_ok 2 rfl)))))
  (e_Tok2
  (e_Lok (e_st (I := eI) (er_icmple (off := 8) (tg := 130) (x_dk dn_381_0_3_ok 3 rfl) (by decide)) nx_if2))
  (e_Tok2
  (e_Lok (ld_iload_6 (x_dk dn_381_0_3_ok 4 rfl)))
  (e_Lok (e_st (I := eI) (er_goto (off := 4) (tg := 131) (x_dk dn_381_0_3_ok 5 rfl) (by decide)) nx_goto))))))
  (e_Tok2
  (e_Tok2
  (e_Tok2
  (e_Lok (ld_iload_n_3 (x_dk dn_381_0_3_ok 6 rfl)))
  (e_Tok2
  (e_Lok (e_st (I := eI) (er_istore_n (i := 3) (x_dk dn_381_0_3_ok 7 rfl) (by decide +kernel)) nx_stor))
  (e_Lok (e_st (I := eI) (er_iinc (i := 4) (n := 1) (x_dk dn_381_0_3_ok 8 rfl) (by decide +kernel) (by decide)) nx_inc))))
  (e_Tok2
  (e_Lok (e_st (I := eI) (er_goto (off := (-96)) (tg := 39) (x_dk dn_381_0_3_ok 9 rfl) (by decide)) nx_goto))
  (e_Tok2
  (e_Lok (ld_aload_n_0 (x_dk dn_381_0_3_ok 10 rfl)))
  (e_Lok (lk_12_8g ho_381 (x_dk dn_381_0_3_ok 11 rfl))))))
  (e_Tok2
  (e_Tok2
  (e_Lok (ld_iload_n_2 (x_dk dn_381_0_3_ok 12 rfl)))
  (e_Tok2
  (e_Lok (ps_bipush_11 (x_dk dn_381_0_3_ok 13 rfl)))
  (e_Lok (sm_iadd (x_dk dn_381_0_3_ok 14 rfl)))))
  (e_Tok2
  (e_Lok (ld_iload_n_3 (x_dk dn_381_0_3_ok 15 rfl)))
  (e_Tok2
  (e_Lok (sm_iastore (x_dk dn_381_0_3_ok 16 rfl)))
  (e_Lok (e_rt (I := eI) (k := 0) ⟨(x_dk dn_381_0_3_ok 17 rfl), rfl⟩)))))))
def te_381 : Nat → eE := (e_T 67 (e_T 32 te_381_0 te_381_23) (e_T 106 te_381_46 te_381_69))
theorem te_381_ok : ∀ pc, e_EOq eft cls elay eI n_381 pc (te_381 pc) := (e_Tok2 ((e_Tok2 (te_381_0_ok) (te_381_23_ok))) ((e_Tok2 (te_381_46_ok) (te_381_69_ok))))
theorem ho_382 : (xm_y n_382).cls = "RobotCellHouseModel" := rfl
def dn_382_0_0 : List (Nat × Instr × Nat) := [(0, .iconst 0, 1), (1, .istore_n 3, 1), (2, .lconst 0, 1), (3, .lstore 4, 2), (5, .lload 4, 2), (7, .iload_n 0, 1), (8, .i2l, 1), (9, .lcmp, 1), (10, .ifCond .ge 102, 3), (13, .iinc 3 1, 3), (16, .iload_n 3, 1), (17, .iconst 2, 1), (18, .idiv, 1), (19, .istore 6, 2), (21, .iload_n 1, 1), (22, .iload_n 2, 1), (23, .idiv, 1), (24, .istore 7, 2), (26, .iload 6, 2), (28, .iload 7, 2), (30, .if_icmp .ge 8, 3), (33, .iload 6, 2), (35, .goto 5, 3), (38, .iload 7, 2), (40, .istore 8, 2)]
set_option maxRecDepth 20000 in
theorem dn_382_0_0_ok : dn_382_0_0.all (fun q => decide (decode (xm_b n_382) q.1 = .ok (q.2.1, q.2.2))) = true := xa_g_ok (by decide +kernel)
def dn_382_0_1 : List (Nat × Instr × Nat) := [(42, .iload_n 2, 1), (43, .i2l, 1), (44, .iload 8, 2), (46, .i2l, 1), (47, .lmul, 1), (48, .iload 8, 2), (50, .iconst 1, 1), (51, .iadd, 1), (52, .i2l, 1), (53, .lmul, 1), (54, .ldc2_w 750, 3), (57, .iload 6, 2), (59, .iload 8, 2), (61, .isub, 1), (62, .i2l, 1), (63, .lmul, 1), (64, .iload_n 1, 1), (65, .i2l, 1), (66, .lmul, 1), (67, .ladd, 1), (68, .lstore 4, 2), (70, .iload_n 3, 1), (71, .iconst 2, 1), (72, .irem, 1), (73, .iconst 1, 1)]
set_option maxRecDepth 20000 in
theorem dn_382_0_1_ok : dn_382_0_1.all (fun q => decide (decode (xm_b n_382) q.1 = .ok (q.2.1, q.2.2))) = true := xa_g_ok (by decide +kernel)
def dn_382_0_2 : List (Nat × Instr × Nat) := [(74, .if_icmp .ne 35, 3), (77, .lload 4, 2), (79, .iload_n 2, 1), (80, .i2l, 1), (81, .iload 6, 2), (83, .iconst 1, 1), (84, .iadd, 1), (85, .i2l, 1), (86, .lmul, 1), (87, .iload_n 1, 1), (88, .i2l, 1), (89, .lcmp, 1), (90, .ifCond .ge 14, 3), (93, .iload_n 2, 1), (94, .i2l, 1), (95, .iload 6, 2), (97, .iconst 1, 1), (98, .iadd, 1), (99, .i2l, 1), (100, .lmul, 1), (101, .goto 5, 3), (104, .iload_n 1, 1), (105, .i2l, 1), (106, .ladd, 1), (107, .lstore 4, 2)]
set_option maxRecDepth 20000 in
theorem dn_382_0_2_ok : dn_382_0_2.all (fun q => decide (decode (xm_b n_382) q.1 = .ok (q.2.1, q.2.2))) = true := xa_g_ok (by decide +kernel)
def dn_382_0_3 : List (Nat × Instr × Nat) := [(109, .goto (-104), 3), (112, .iload_n 3, 1), (113, .ireturn, 1)]
set_option maxRecDepth 20000 in
theorem dn_382_0_3_ok : dn_382_0_3.all (fun q => decide (decode (xm_b n_382) q.1 = .ok (q.2.1, q.2.2))) = true := xa_g_ok (by decide +kernel)
def te_382_0 : Nat → eE := (e_T 26 (e_T 10 (e_T 3 (e_T 1 (e_T 0 (e_L 0 (0, ei_push (0, 0) 1, 0, 0)) (e_L 1 (0, ei_stor 3 0 2, 0, 0))) (e_T 2 (e_L 2 (0, ei_push (4, 0) 3, 0, 0)) (e_L 3 (0, ei_stor 4 1 5, 0, 0)))) (e_T 7 (e_T 5 (e_L 5 (0, ei_load 4 1 7, 0, 0)) (e_L 7 (0, ei_load 0 0 8, 0, 0))) (e_T 8 (e_L 8 (0, ei_un (fun x => (4, x)) 9, 0, 0)) (e_T 9 (e_L 9 (0, ei_binL eG_cmp 10, 0, 0)) (e_L 10 (0, ei_if1 3 112 13, 0, 0)))))) (e_T 19 (e_T 16 (e_T 13 (e_L 13 (0, ei_inc 3 1 16, 0, 0)) (e_L 16 (0, ei_load 3 0 17, 0, 0))) (e_T 17 (e_L 17 (0, ei_push (0, 2) 18, 0, 0)) (e_T 18 (e_L 18 (0, ei_bin eF_div 19, 0, 0)) (e_L 19 (0, ei_stor 6 0 21, 0, 0))))) (e_T 22 (e_T 21 (e_L 21 (0, ei_load 1 0 22, 0, 0)) (e_L 22 (0, ei_load 2 0 23, 0, 0))) (e_T 23 (e_L 23 (0, ei_bin eF_div 24, 0, 0)) (e_T 24 (e_L 24 (0, ei_stor 7 0 26, 0, 0)) (e_L 26 (0, ei_load 6 0 28, 0, 0))))))) (e_T 46 (e_T 38 (e_T 30 (e_T 28 (e_L 28 (0, ei_load 7 0 30, 0, 0)) (e_L 30 (0, ei_if2 3 38 33, 0, 0))) (e_T 33 (e_L 33 (0, ei_load 6 0 35, 0, 0)) (e_T 35 (e_L 35 (0, ei_goto 40, 0, 0)) (e_L 38 (0, ei_load 7 0 40, 0, 0))))) (e_T 42 (e_T 40 (e_L 40 (0, ei_stor 8 0 42, 0, 0)) (e_L 42 (0, ei_load 2 0 43, 0, 0))) (e_T 43 (e_L 43 (0, ei_un (fun x => (4, x)) 44, 0, 0)) (e_T 44 (e_L 44 (0, ei_load 8 0 46, 0, 0)) (e_L 46 (0, ei_un (fun x => (4, x)) 47, 0, 0)))))) (e_T 52 (e_T 48 (e_T 47 (e_L 47 (0, ei_binL eG_mul 48, 0, 0)) (e_L 48 (0, ei_load 8 0 50, 0, 0))) (e_T 50 (e_L 50 (0, ei_push (0, 1) 51, 0, 0)) (e_T 51 (e_L 51 (0, ei_bin eF_add 52, 0, 0)) (e_L 52 (0, ei_un (fun x => (4, x)) 53, 0, 0))))) (e_T 54 (e_T 53 (e_L 53 (0, ei_binL eG_mul 54, 0, 0)) (e_L 54 (0, ei_push (4, 2) 57, 0, 0))) (e_T 57 (e_L 57 (0, ei_load 6 0 59, 0, 0)) (e_T 59 (e_L 59 (0, ei_load 8 0 61, 0, 0)) (e_L 61 (0, ei_bin eF_sub 62, 0, 0))))))))
set_option maxRecDepth 20000 in
set_option maxHeartbeats 4000000 in
theorem te_382_0_ok : ∀ pc, e_EOq eft cls elay eI n_382 pc (te_382_0 pc) :=
  (e_Tok2
  (e_Tok2
  (e_Tok2
  (e_Tok2
  (e_Tok2
  (e_Lok (ps_iconst_0 (x_dk dn_382_0_0_ok 0 rfl)))
  (e_Lok (e_st (I := eI) (er_istore_n (i := 3) (x_dk dn_382_0_0_ok 1 rfl) (by decide +kernel)) nx_stor)))
  (e_Tok2
  (e_Lok (ps_lconst_0 (x_dk dn_382_0_0_ok 2 rfl)))
  (e_Lok (e_st (I := eI) (er_lstore (i := 4) (x_dk dn_382_0_0_ok 3 rfl) (by decide +kernel)) nx_stor))))
  (e_Tok2
  (e_Tok2
  (e_Lok (ld_lload_4 (x_dk dn_382_0_0_ok 4 rfl)))
  (e_Lok (ld_iload_n_0 (x_dk dn_382_0_0_ok 5 rfl))))
  (e_Tok2
  (e_Lok (e_st (I := eI) (er_i2l (x_dk dn_382_0_0_ok 6 rfl)) (nx_un (fun _ => rfl))))
  (e_Tok2
  (e_Lok (e_st (I := eI) (er_lcmp (x_dk dn_382_0_0_ok 7 rfl)) (nx_binL bG_lcmp)))
  (e_Lok (e_st (I := eI) (er_ifge (off := 102) (tg := 112) (x_dk dn_382_0_0_ok 8 rfl) (by decide)) nx_if1))))))
  (e_Tok2
  (e_Tok2
  (e_Tok2
  (e_Lok (e_st (I := eI) (er_iinc (i := 3) (n := 1) (x_dk dn_382_0_0_ok 9 rfl) (by decide +kernel) (by decide)) nx_inc))
  (e_Lok (ld_iload_n_3 (x_dk dn_382_0_0_ok 10 rfl))))
  (e_Tok2
  (e_Lok (ps_iconst_2 (x_dk dn_382_0_0_ok 11 rfl)))
  (e_Tok2
  (e_Lok (e_st (I := eI) (er_idiv (x_dk dn_382_0_0_ok 12 rfl)) nx_bin))
  (e_Lok (e_st (I := eI) (er_istore (i := 6) (x_dk dn_382_0_0_ok 13 rfl) (by decide +kernel)) nx_stor)))))
  (e_Tok2
  (e_Tok2
  (e_Lok (ld_iload_n_1 (x_dk dn_382_0_0_ok 14 rfl)))
  (e_Lok (ld_iload_n_2 (x_dk dn_382_0_0_ok 15 rfl))))
  (e_Tok2
  (e_Lok (e_st (I := eI) (er_idiv (x_dk dn_382_0_0_ok 16 rfl)) nx_bin))
  (e_Tok2
  (e_Lok (e_st (I := eI) (er_istore (i := 7) (x_dk dn_382_0_0_ok 17 rfl) (by decide +kernel)) nx_stor))
  (e_Lok (ld_iload_6 (x_dk dn_382_0_0_ok 18 rfl))))))))
  (e_Tok2
  (e_Tok2
  (e_Tok2
  (e_Tok2
  (e_Lok (ld_iload_7 (x_dk dn_382_0_0_ok 19 rfl)))
  (e_Lok (e_st (I := eI) (er_icmpge (off := 8) (tg := 38) (x_dk dn_382_0_0_ok 20 rfl) (by decide)) nx_if2)))
  (e_Tok2
  (e_Lok (ld_iload_6 (x_dk dn_382_0_0_ok 21 rfl)))
  (e_Tok2
  (e_Lok (e_st (I := eI) (er_goto (off := 5) (tg := 40) (x_dk dn_382_0_0_ok 22 rfl) (by decide)) nx_goto))
  (e_Lok (ld_iload_7 (x_dk dn_382_0_0_ok 23 rfl))))))
  (e_Tok2
  (e_Tok2
  (e_Lok (e_st (I := eI) (er_istore (i := 8) (x_dk dn_382_0_0_ok 24 rfl) (by decide +kernel)) nx_stor))
  (e_Lok (ld_iload_n_2 (x_dk dn_382_0_1_ok 0 rfl))))
  (e_Tok2
  (e_Lok (e_st (I := eI) (er_i2l (x_dk dn_382_0_1_ok 1 rfl)) (nx_un (fun _ => rfl))))
  (e_Tok2
  (e_Lok (ld_iload_8 (x_dk dn_382_0_1_ok 2 rfl)))
  (e_Lok (e_st (I := eI) (er_i2l (x_dk dn_382_0_1_ok 3 rfl)) (nx_un (fun _ => rfl))))))))
  (e_Tok2
  (e_Tok2
  (e_Tok2
  (e_Lok (e_st (I := eI) (er_lmul (x_dk dn_382_0_1_ok 4 rfl)) (nx_binL bG_lmul)))
  (e_Lok (ld_iload_8 (x_dk dn_382_0_1_ok 5 rfl))))
  (e_Tok2
  (e_Lok (ps_iconst_1 (x_dk dn_382_0_1_ok 6 rfl)))
  (e_Tok2
  (e_Lok (sm_iadd (x_dk dn_382_0_1_ok 7 rfl)))
  (e_Lok (e_st (I := eI) (er_i2l (x_dk dn_382_0_1_ok 8 rfl)) (nx_un (fun _ => rfl)))))))
  (e_Tok2
  (e_Tok2
  (e_Lok (e_st (I := eI) (er_lmul (x_dk dn_382_0_1_ok 9 rfl)) (nx_binL bG_lmul)))
  (e_Lok (e_st (I := eI) (er_ldc2 (ix := 750) (z := 2) (v := 2) (x_dk dn_382_0_1_ok 10 rfl) (in_t12 (List.mem_of_getElem? (i := 185) rfl) rfl) (by decide)) (nx_push (Or.inl rfl)))))
  (e_Tok2
  (e_Lok (ld_iload_6 (x_dk dn_382_0_1_ok 11 rfl)))
  (e_Tok2
  (e_Lok (ld_iload_8 (x_dk dn_382_0_1_ok 12 rfl)))
  (e_Lok (sm_isub (x_dk dn_382_0_1_ok 13 rfl)))))))))
def te_382_39 : Nat → eE := (e_T 85 (e_T 71 (e_T 65 (e_T 63 (e_T 62 (e_L 62 (0, ei_un (fun x => (4, x)) 63, 0, 0)) (e_L 63 (0, ei_binL eG_mul 64, 0, 0))) (e_T 64 (e_L 64 (0, ei_load 1 0 65, 0, 0)) (e_L 65 (0, ei_un (fun x => (4, x)) 66, 0, 0)))) (e_T 67 (e_T 66 (e_L 66 (0, ei_binL eG_mul 67, 0, 0)) (e_L 67 (0, ei_binL eG_add 68, 0, 0))) (e_T 68 (e_L 68 (0, ei_stor 4 1 70, 0, 0)) (e_T 70 (e_L 70 (0, ei_load 3 0 71, 0, 0)) (e_L 71 (0, ei_push (0, 2) 72, 0, 0)))))) (e_T 79 (e_T 73 (e_T 72 (e_L 72 (0, ei_bin eF_rem 73, 0, 0)) (e_L 73 (0, ei_push (0, 1) 74, 0, 0))) (e_T 74 (e_L 74 (0, ei_if2 1 109 77, 0, 0)) (e_T 77 (e_L 77 (0, ei_load 4 1 79, 0, 0)) (e_L 79 (0, ei_load 2 0 80, 0, 0))))) (e_T 81 (e_T 80 (e_L 80 (0, ei_un (fun x => (4, x)) 81, 0, 0)) (e_L 81 (0, ei_load 6 0 83, 0, 0))) (e_T 83 (e_L 83 (0, ei_push (0, 1) 84, 0, 0)) (e_T 84 (e_L 84 (0, ei_bin eF_add 85, 0, 0)) (e_L 85 (0, ei_un (fun x => (4, x)) 86, 0, 0))))))) (e_T 98 (e_T 90 (e_T 87 (e_T 86 (e_L 86 (0, ei_binL eG_mul 87, 0, 0)) (e_L 87 (0, ei_load 1 0 88, 0, 0))) (e_T 88 (e_L 88 (0, ei_un (fun x => (4, x)) 89, 0, 0)) (e_T 89 (e_L 89 (0, ei_binL eG_cmp 90, 0, 0)) (e_L 90 (0, ei_if1 3 104 93, 0, 0))))) (e_T 94 (e_T 93 (e_L 93 (0, ei_load 2 0 94, 0, 0)) (e_L 94 (0, ei_un (fun x => (4, x)) 95, 0, 0))) (e_T 95 (e_L 95 (0, ei_load 6 0 97, 0, 0)) (e_T 97 (e_L 97 (0, ei_push (0, 1) 98, 0, 0)) (e_L 98 (0, ei_bin eF_add 99, 0, 0)))))) (e_T 105 (e_T 100 (e_T 99 (e_L 99 (0, ei_un (fun x => (4, x)) 100, 0, 0)) (e_L 100 (0, ei_binL eG_mul 101, 0, 0))) (e_T 101 (e_L 101 (0, ei_goto 106, 0, 0)) (e_T 104 (e_L 104 (0, ei_load 1 0 105, 0, 0)) (e_L 105 (0, ei_un (fun x => (4, x)) 106, 0, 0))))) (e_T 107 (e_T 106 (e_L 106 (0, ei_binL eG_add 107, 0, 0)) (e_L 107 (0, ei_stor 4 1 109, 0, 0))) (e_T 109 (e_L 109 (0, ei_goto 5, 0, 0)) (e_T 112 (e_L 112 (0, ei_load 3 0 113, 0, 0)) (e_L 113 (1, e_nof, 1, 0))))))))
set_option maxRecDepth 20000 in
set_option maxHeartbeats 4000000 in
theorem te_382_39_ok : ∀ pc, e_EOq eft cls elay eI n_382 pc (te_382_39 pc) :=
  (e_Tok2
  (e_Tok2
  (e_Tok2
  (e_Tok2
  (e_Tok2
  (e_Lok (e_st (I := eI) (er_i2l (x_dk dn_382_0_1_ok 14 rfl)) (nx_un (fun _ => rfl))))
  (e_Lok (e_st (I := eI) (er_lmul (x_dk dn_382_0_1_ok 15 rfl)) (nx_binL bG_lmul))))
  (e_Tok2
  (e_Lok (ld_iload_n_1 (x_dk dn_382_0_1_ok 16 rfl)))
  (e_Lok (e_st (I := eI) (er_i2l (x_dk dn_382_0_1_ok 17 rfl)) (nx_un (fun _ => rfl))))))
  (e_Tok2
  (e_Tok2
  (e_Lok (e_st (I := eI) (er_lmul (x_dk dn_382_0_1_ok 18 rfl)) (nx_binL bG_lmul)))
  (e_Lok (e_st (I := eI) (er_ladd (x_dk dn_382_0_1_ok 19 rfl)) (nx_binL bG_ladd))))
  (e_Tok2
  (e_Lok (e_st (I := eI) (er_lstore (i := 4) (x_dk dn_382_0_1_ok 20 rfl) (by decide +kernel)) nx_stor))
  (e_Tok2
  (e_Lok (ld_iload_n_3 (x_dk dn_382_0_1_ok 21 rfl)))
  (e_Lok (ps_iconst_2 (x_dk dn_382_0_1_ok 22 rfl)))))))
  (e_Tok2
  (e_Tok2
  (e_Tok2
  (e_Lok (e_st (I := eI) (er_irem (x_dk dn_382_0_1_ok 23 rfl)) nx_bin))
  (e_Lok (ps_iconst_1 (x_dk dn_382_0_1_ok 24 rfl))))
  (e_Tok2
  (e_Lok (e_st (I := eI) (er_icmpne (off := 35) (tg := 109) (x_dk dn_382_0_2_ok 0 rfl) (by decide)) nx_if2))
  (e_Tok2
  (e_Lok (ld_lload_4 (x_dk dn_382_0_2_ok 1 rfl)))
  (e_Lok (ld_iload_n_2 (x_dk dn_382_0_2_ok 2 rfl))))))
  (e_Tok2
  (e_Tok2
  (e_Lok (e_st (I := eI) (er_i2l (x_dk dn_382_0_2_ok 3 rfl)) (nx_un (fun _ => rfl))))
  (e_Lok (ld_iload_6 (x_dk dn_382_0_2_ok 4 rfl))))
  (e_Tok2
  (e_Lok (ps_iconst_1 (x_dk dn_382_0_2_ok 5 rfl)))
  (e_Tok2
  (e_Lok (sm_iadd (x_dk dn_382_0_2_ok 6 rfl)))
  (e_Lok (e_st (I := eI) (er_i2l (x_dk dn_382_0_2_ok 7 rfl)) (nx_un (fun _ => rfl)))))))))
  (e_Tok2
  (e_Tok2
  (e_Tok2
  (e_Tok2
  (e_Lok (e_st (I := eI) (er_lmul (x_dk dn_382_0_2_ok 8 rfl)) (nx_binL bG_lmul)))
  (e_Lok (ld_iload_n_1 (x_dk dn_382_0_2_ok 9 rfl))))
  (e_Tok2
  (e_Lok (e_st (I := eI) (er_i2l (x_dk dn_382_0_2_ok 10 rfl)) (nx_un (fun _ => rfl))))
  (e_Tok2
  (e_Lok (e_st (I := eI) (er_lcmp (x_dk dn_382_0_2_ok 11 rfl)) (nx_binL bG_lcmp)))
  (e_Lok (e_st (I := eI) (er_ifge (off := 14) (tg := 104) (x_dk dn_382_0_2_ok 12 rfl) (by decide)) nx_if1)))))
  (e_Tok2
  (e_Tok2
  (e_Lok (ld_iload_n_2 (x_dk dn_382_0_2_ok 13 rfl)))
  (e_Lok (e_st (I := eI) (er_i2l (x_dk dn_382_0_2_ok 14 rfl)) (nx_un (fun _ => rfl)))))
  (e_Tok2
  (e_Lok (ld_iload_6 (x_dk dn_382_0_2_ok 15 rfl)))
  (e_Tok2
  (e_Lok (ps_iconst_1 (x_dk dn_382_0_2_ok 16 rfl)))
  (e_Lok (sm_iadd (x_dk dn_382_0_2_ok 17 rfl)))))))
  (e_Tok2
  (e_Tok2
  (e_Tok2
  (e_Lok (e_st (I := eI) (er_i2l (x_dk dn_382_0_2_ok 18 rfl)) (nx_un (fun _ => rfl))))
  (e_Lok (e_st (I := eI) (er_lmul (x_dk dn_382_0_2_ok 19 rfl)) (nx_binL bG_lmul))))
  (e_Tok2
  (e_Lok (e_st (I := eI) (er_goto (off := 5) (tg := 106) (x_dk dn_382_0_2_ok 20 rfl) (by decide)) nx_goto))
  (e_Tok2
  (e_Lok (ld_iload_n_1 (x_dk dn_382_0_2_ok 21 rfl)))
  (e_Lok (e_st (I := eI) (er_i2l (x_dk dn_382_0_2_ok 22 rfl)) (nx_un (fun _ => rfl)))))))
  (e_Tok2
  (e_Tok2
  (e_Lok (e_st (I := eI) (er_ladd (x_dk dn_382_0_2_ok 23 rfl)) (nx_binL bG_ladd)))
  (e_Lok (e_st (I := eI) (er_lstore (i := 4) (x_dk dn_382_0_2_ok 24 rfl) (by decide +kernel)) nx_stor)))
  (e_Tok2
  (e_Lok (e_st (I := eI) (er_goto (off := (-104)) (tg := 5) (x_dk dn_382_0_3_ok 0 rfl) (by decide)) nx_goto))
  (e_Tok2
  (e_Lok (ld_iload_n_3 (x_dk dn_382_0_3_ok 1 rfl)))
  (e_Lok (e_rt (I := eI) (k := 1) ⟨(x_dk dn_382_0_3_ok 2 rfl), rfl⟩))))))))
def te_382 : Nat → eE := (e_T 61 te_382_0 te_382_39)
theorem te_382_ok : ∀ pc, e_EOq eft cls elay eI n_382 pc (te_382 pc) := (e_Tok2 (te_382_0_ok) (te_382_39_ok))
end
end
-- part 41be
section
noncomputable section
theorem ho_383 : (xm_y n_383).cls = "RobotCellHouseModel" := rfl
def dn_383_0_0 : List (Nat × Instr × Nat) := [(0, .iload_n 1, 1), (1, .invokestatic 294, 3), (4, .istore_n 2, 1), (5, .aload_n 0, 1), (6, .getfield 8, 3), (9, .iload_n 2, 1), (10, .iconst 0, 1), (11, .iadd, 1), (12, .iaload, 1), (13, .iconst 1, 1), (14, .if_icmp .ne 64, 3), (17, .aload_n 0, 1), (18, .bipush 9, 2), (20, .iload_n 1, 1), (21, .iconst 0, 1), (22, .invokevirtual 693, 3), (25, .aload_n 0, 1), (26, .getfield 8, 3), (29, .iload_n 2, 1), (30, .bipush 9, 2), (32, .iadd, 1), (33, .iaload, 1), (34, .ifCond .lt 24, 3), (37, .aload_n 0, 1), (38, .getfield 8, 3)]
set_option maxRecDepth 20000 in
theorem dn_383_0_0_ok : dn_383_0_0.all (fun q => decide (decode (xm_b n_383) q.1 = .ok (q.2.1, q.2.2))) = true := xa_g_ok (by decide +kernel)
def dn_383_0_1 : List (Nat × Instr × Nat) := [(41, .aload_n 0, 1), (42, .getfield 8, 3), (45, .iload_n 2, 1), (46, .bipush 9, 2), (48, .iadd, 1), (49, .iaload, 1), (50, .invokestatic 298, 3), (53, .bipush 7, 2), (55, .iadd, 1), (56, .iconst 1, 1), (57, .iastore, 1), (58, .aload_n 0, 1), (59, .getfield 8, 3), (62, .iload_n 2, 1), (63, .bipush 9, 2), (65, .iadd, 1), (66, .iconst (-1), 1), (67, .iastore, 1), (68, .aload_n 0, 1), (69, .getfield 8, 3), (72, .iload_n 2, 1), (73, .bipush 6, 2), (75, .iadd, 1), (76, .iconst 0, 1), (77, .iastore, 1)]
set_option maxRecDepth 20000 in
theorem dn_383_0_1_ok : dn_383_0_1.all (fun q => decide (decode (xm_b n_383) q.1 = .ok (q.2.1, q.2.2))) = true := xa_g_ok (by decide +kernel)
def dn_383_0_2 : List (Nat × Instr × Nat) := [(78, .return_, 1)]
set_option maxRecDepth 20000 in
theorem dn_383_0_2_ok : dn_383_0_2.all (fun q => decide (decode (xm_b n_383) q.1 = .ok (q.2.1, q.2.2))) = true := xa_g_ok (by decide +kernel)
def te_383_0 : Nat → eE := (e_T 17 (e_T 9 (e_T 4 (e_T 0 (e_L 0 (0, ei_load 1 0 1, 0, 0)) (e_T 1 (e_L 1 (2, e_nof, 268, 1)) (e_L 4 (0, ei_stor 2 0 5, 0, 0)))) (e_T 5 (e_L 5 (0, ei_load 0 2 6, 0, 0)) (e_T 6 (e_L 6 (0, ei_getf eft elay 12 0 9, 0, 0)) (e_L 9 (0, ei_load 2 0 10, 0, 0))))) (e_T 12 (e_T 10 (e_L 10 (0, ei_push (0, 0) 11, 0, 0)) (e_T 11 (e_L 11 (0, ei_bin eF_add 12, 0, 0)) (e_L 12 (0, ei_ald elay false 13, 0, 0)))) (e_T 13 (e_L 13 (0, ei_push (0, 1) 14, 0, 0)) (e_T 14 (e_L 14 (0, ei_if2 1 78 17, 0, 0)) (e_L 17 (0, ei_load 0 2 18, 0, 0)))))) (e_T 26 (e_T 21 (e_T 18 (e_L 18 (0, ei_push (0, 9) 20, 0, 0)) (e_T 20 (e_L 20 (0, ei_load 1 0 21, 0, 0)) (e_L 21 (0, ei_push (0, 0) 22, 0, 0)))) (e_T 22 (e_L 22 (2, e_nof, 319, 4)) (e_T 25 (e_L 25 (0, ei_load 0 2 26, 0, 0)) (e_L 26 (0, ei_getf eft elay 12 0 29, 0, 0))))) (e_T 32 (e_T 29 (e_L 29 (0, ei_load 2 0 30, 0, 0)) (e_T 30 (e_L 30 (0, ei_push (0, 9) 32, 0, 0)) (e_L 32 (0, ei_bin eF_add 33, 0, 0)))) (e_T 34 (e_T 33 (e_L 33 (0, ei_ald elay false 34, 0, 0)) (e_L 34 (0, ei_if1 2 58 37, 0, 0))) (e_T 37 (e_L 37 (0, ei_load 0 2 38, 0, 0)) (e_L 38 (0, ei_getf eft elay 12 0 41, 0, 0)))))))
set_option maxRecDepth 20000 in
set_option maxHeartbeats 4000000 in
theorem te_383_0_ok : ∀ pc, e_EOq eft cls elay eI n_383 pc (te_383_0 pc) :=
  (e_Tok2
  (e_Tok2
  (e_Tok2
  (e_Tok2
  (e_Lok (ld_iload_n_1 (x_dk dn_383_0_0_ok 0 rfl)))
  (e_Tok2
  (e_Lok (lk_12_294 ho_383 (x_dk dn_383_0_0_ok 1 rfl)))
  (e_Lok (e_st (I := eI) (er_istore_n (i := 2) (x_dk dn_383_0_0_ok 2 rfl) (by decide +kernel)) nx_stor))))
  (e_Tok2
  (e_Lok (ld_aload_n_0 (x_dk dn_383_0_0_ok 3 rfl)))
  (e_Tok2
  (e_Lok (lk_12_8g ho_383 (x_dk dn_383_0_0_ok 4 rfl)))
  (e_Lok (ld_iload_n_2 (x_dk dn_383_0_0_ok 5 rfl))))))
  (e_Tok2
  (e_Tok2
  (e_Lok (ps_iconst_0 (x_dk dn_383_0_0_ok 6 rfl)))
  (e_Tok2
  (e_Lok (sm_iadd (x_dk dn_383_0_0_ok 7 rfl)))
  (e_Lok (sm_iaload (x_dk dn_383_0_0_ok 8 rfl)))))
  (e_Tok2
  (e_Lok (ps_iconst_1 (x_dk dn_383_0_0_ok 9 rfl)))
  (e_Tok2
  (e_Lok (e_st (I := eI) (er_icmpne (off := 64) (tg := 78) (x_dk dn_383_0_0_ok 10 rfl) (by decide)) nx_if2))
  (e_Lok (ld_aload_n_0 (x_dk dn_383_0_0_ok 11 rfl)))))))
  (e_Tok2
  (e_Tok2
  (e_Tok2
  (e_Lok (ps_bipush_9 (x_dk dn_383_0_0_ok 12 rfl)))
  (e_Tok2
  (e_Lok (ld_iload_n_1 (x_dk dn_383_0_0_ok 13 rfl)))
  (e_Lok (ps_iconst_0 (x_dk dn_383_0_0_ok 14 rfl)))))
  (e_Tok2
  (e_Lok (lk_12_693 ho_383 (x_dk dn_383_0_0_ok 15 rfl)))
  (e_Tok2
  (e_Lok (ld_aload_n_0 (x_dk dn_383_0_0_ok 16 rfl)))
  (e_Lok (lk_12_8g ho_383 (x_dk dn_383_0_0_ok 17 rfl))))))
  (e_Tok2
  (e_Tok2
  (e_Lok (ld_iload_n_2 (x_dk dn_383_0_0_ok 18 rfl)))
  (e_Tok2
  (e_Lok (ps_bipush_9 (x_dk dn_383_0_0_ok 19 rfl)))
  (e_Lok (sm_iadd (x_dk dn_383_0_0_ok 20 rfl)))))
  (e_Tok2
  (e_Tok2
  (e_Lok (sm_iaload (x_dk dn_383_0_0_ok 21 rfl)))
  (e_Lok (e_st (I := eI) (er_iflt (off := 24) (tg := 58) (x_dk dn_383_0_0_ok 22 rfl) (by decide)) nx_if1)))
  (e_Tok2
  (e_Lok (ld_aload_n_0 (x_dk dn_383_0_0_ok 23 rfl)))
  (e_Lok (lk_12_8g ho_383 (x_dk dn_383_0_0_ok 24 rfl))))))))
def te_383_25 : Nat → eE := (e_T 59 (e_T 49 (e_T 45 (e_T 41 (e_L 41 (0, ei_load 0 2 42, 0, 0)) (e_T 42 (e_L 42 (0, ei_getf eft elay 12 0 45, 0, 0)) (e_L 45 (0, ei_load 2 0 46, 0, 0)))) (e_T 46 (e_L 46 (0, ei_push (0, 9) 48, 0, 0)) (e_T 48 (e_L 48 (0, ei_bin eF_add 49, 0, 0)) (e_L 49 (0, ei_ald elay false 50, 0, 0))))) (e_T 55 (e_T 50 (e_L 50 (2, e_nof, 269, 1)) (e_T 53 (e_L 53 (0, ei_push (0, 7) 55, 0, 0)) (e_L 55 (0, ei_bin eF_add 56, 0, 0)))) (e_T 57 (e_T 56 (e_L 56 (0, ei_push (0, 1) 57, 0, 0)) (e_L 57 (0, ei_ast elay false 58, 0, 0))) (e_T 58 (e_L 58 (0, ei_load 0 2 59, 0, 0)) (e_L 59 (0, ei_getf eft elay 12 0 62, 0, 0)))))) (e_T 68 (e_T 65 (e_T 62 (e_L 62 (0, ei_load 2 0 63, 0, 0)) (e_T 63 (e_L 63 (0, ei_push (0, 9) 65, 0, 0)) (e_L 65 (0, ei_bin eF_add 66, 0, 0)))) (e_T 66 (e_L 66 (0, ei_push (0, (-1)) 67, 0, 0)) (e_T 67 (e_L 67 (0, ei_ast elay false 68, 0, 0)) (e_L 68 (0, ei_load 0 2 69, 0, 0))))) (e_T 73 (e_T 69 (e_L 69 (0, ei_getf eft elay 12 0 72, 0, 0)) (e_T 72 (e_L 72 (0, ei_load 2 0 73, 0, 0)) (e_L 73 (0, ei_push (0, 6) 75, 0, 0)))) (e_T 76 (e_T 75 (e_L 75 (0, ei_bin eF_add 76, 0, 0)) (e_L 76 (0, ei_push (0, 0) 77, 0, 0))) (e_T 77 (e_L 77 (0, ei_ast elay false 78, 0, 0)) (e_L 78 (1, e_nof, 0, 0)))))))
set_option maxRecDepth 20000 in
set_option maxHeartbeats 4000000 in
theorem te_383_25_ok : ∀ pc, e_EOq eft cls elay eI n_383 pc (te_383_25 pc) :=
  (e_Tok2
  (e_Tok2
  (e_Tok2
  (e_Tok2
  (e_Lok (ld_aload_n_0 (x_dk dn_383_0_1_ok 0 rfl)))
  (e_Tok2
  (e_Lok (lk_12_8g ho_383 (x_dk dn_383_0_1_ok 1 rfl)))
  (e_Lok (ld_iload_n_2 (x_dk dn_383_0_1_ok 2 rfl)))))
  (e_Tok2
  (e_Lok (ps_bipush_9 (x_dk dn_383_0_1_ok 3 rfl)))
  (e_Tok2
  (e_Lok (sm_iadd (x_dk dn_383_0_1_ok 4 rfl)))
  (e_Lok (sm_iaload (x_dk dn_383_0_1_ok 5 rfl))))))
  (e_Tok2
  (e_Tok2
  (e_Lok (lk_12_298 ho_383 (x_dk dn_383_0_1_ok 6 rfl)))
  (e_Tok2
  (e_Lok (ps_bipush_7 (x_dk dn_383_0_1_ok 7 rfl)))
  (e_Lok (sm_iadd (x_dk dn_383_0_1_ok 8 rfl)))))
  (e_Tok2
  (e_Tok2
  (e_Lok (ps_iconst_1 (x_dk dn_383_0_1_ok 9 rfl)))
  (e_Lok (sm_iastore (x_dk dn_383_0_1_ok 10 rfl))))
  (e_Tok2
  (e_Lok (ld_aload_n_0 (x_dk dn_383_0_1_ok 11 rfl)))
  (e_Lok (lk_12_8g ho_383 (x_dk dn_383_0_1_ok 12 rfl)))))))
  (e_Tok2
  (e_Tok2
  (e_Tok2
  (e_Lok (ld_iload_n_2 (x_dk dn_383_0_1_ok 13 rfl)))
  (e_Tok2
  (e_Lok (ps_bipush_9 (x_dk dn_383_0_1_ok 14 rfl)))
  (e_Lok (sm_iadd (x_dk dn_383_0_1_ok 15 rfl)))))
  (e_Tok2
  (e_Lok (ps_iconst_m1 (x_dk dn_383_0_1_ok 16 rfl)))
  (e_Tok2
  (e_Lok (sm_iastore (x_dk dn_383_0_1_ok 17 rfl)))
  (e_Lok (ld_aload_n_0 (x_dk dn_383_0_1_ok 18 rfl))))))
  (e_Tok2
  (e_Tok2
  (e_Lok (lk_12_8g ho_383 (x_dk dn_383_0_1_ok 19 rfl)))
  (e_Tok2
  (e_Lok (ld_iload_n_2 (x_dk dn_383_0_1_ok 20 rfl)))
  (e_Lok (ps_bipush_6 (x_dk dn_383_0_1_ok 21 rfl)))))
  (e_Tok2
  (e_Tok2
  (e_Lok (sm_iadd (x_dk dn_383_0_1_ok 22 rfl)))
  (e_Lok (ps_iconst_0 (x_dk dn_383_0_1_ok 23 rfl))))
  (e_Tok2
  (e_Lok (sm_iastore (x_dk dn_383_0_1_ok 24 rfl)))
  (e_Lok (e_rt (I := eI) (k := 0) ⟨(x_dk dn_383_0_2_ok 0 rfl), rfl⟩)))))))
def te_383 : Nat → eE := (e_T 38 te_383_0 te_383_25)
theorem te_383_ok : ∀ pc, e_EOq eft cls elay eI n_383 pc (te_383 pc) := (e_Tok2 (te_383_0_ok) (te_383_25_ok))
theorem ho_384 : (xm_y n_384).cls = "RobotCellHouseModel" := rfl
def dn_384_0_0 : List (Nat × Instr × Nat) := [(0, .aload_n 0, 1), (1, .getfield 8, 3), (4, .iload_n 1, 1), (5, .invokestatic 294, 3), (8, .iconst 0, 1), (9, .iadd, 1), (10, .iaload, 1), (11, .iconst 1, 1), (12, .if_icmp .ne 20, 3), (15, .aload_n 0, 1), (16, .iload_n 1, 1), (17, .invokevirtual 752, 3), (20, .aload_n 0, 1), (21, .getfield 8, 3), (24, .iload_n 1, 1), (25, .invokestatic 294, 3), (28, .iconst 0, 1), (29, .iadd, 1), (30, .iconst 2, 1), (31, .iastore, 1), (32, .return_, 1)]
set_option maxRecDepth 20000 in
theorem dn_384_0_0_ok : dn_384_0_0.all (fun q => decide (decode (xm_b n_384) q.1 = .ok (q.2.1, q.2.2))) = true := xa_g_ok (by decide +kernel)
def te_384_0 : Nat → eE := (e_T 15 (e_T 8 (e_T 1 (e_T 0 (e_L 0 (0, ei_load 0 2 1, 0, 0)) (e_L 1 (0, ei_getf eft elay 12 0 4, 0, 0))) (e_T 4 (e_L 4 (0, ei_load 1 0 5, 0, 0)) (e_T 5 (e_L 5 (2, e_nof, 268, 1)) (e_L 8 (0, ei_push (0, 0) 9, 0, 0))))) (e_T 10 (e_T 9 (e_L 9 (0, ei_bin eF_add 10, 0, 0)) (e_L 10 (0, ei_ald elay false 11, 0, 0))) (e_T 11 (e_L 11 (0, ei_push (0, 1) 12, 0, 0)) (e_T 12 (e_L 12 (0, ei_if2 1 32 15, 0, 0)) (e_L 15 (0, ei_load 0 2 16, 0, 0)))))) (e_T 24 (e_T 17 (e_T 16 (e_L 16 (0, ei_load 1 0 17, 0, 0)) (e_L 17 (2, e_nof, 383, 2))) (e_T 20 (e_L 20 (0, ei_load 0 2 21, 0, 0)) (e_T 21 (e_L 21 (0, ei_getf eft elay 12 0 24, 0, 0)) (e_L 24 (0, ei_load 1 0 25, 0, 0))))) (e_T 29 (e_T 25 (e_L 25 (2, e_nof, 268, 1)) (e_T 28 (e_L 28 (0, ei_push (0, 0) 29, 0, 0)) (e_L 29 (0, ei_bin eF_add 30, 0, 0)))) (e_T 30 (e_L 30 (0, ei_push (0, 2) 31, 0, 0)) (e_T 31 (e_L 31 (0, ei_ast elay false 32, 0, 0)) (e_L 32 (1, e_nof, 0, 0)))))))
set_option maxRecDepth 20000 in
set_option maxHeartbeats 4000000 in
theorem te_384_0_ok : ∀ pc, e_EOq eft cls elay eI n_384 pc (te_384_0 pc) :=
  (e_Tok2
  (e_Tok2
  (e_Tok2
  (e_Tok2
  (e_Lok (ld_aload_n_0 (x_dk dn_384_0_0_ok 0 rfl)))
  (e_Lok (lk_12_8g ho_384 (x_dk dn_384_0_0_ok 1 rfl))))
  (e_Tok2
  (e_Lok (ld_iload_n_1 (x_dk dn_384_0_0_ok 2 rfl)))
  (e_Tok2
  (e_Lok (lk_12_294 ho_384 (x_dk dn_384_0_0_ok 3 rfl)))
  (e_Lok (ps_iconst_0 (x_dk dn_384_0_0_ok 4 rfl))))))
  (e_Tok2
  (e_Tok2
  (e_Lok (sm_iadd (x_dk dn_384_0_0_ok 5 rfl)))
  (e_Lok (sm_iaload (x_dk dn_384_0_0_ok 6 rfl))))
  (e_Tok2
  (e_Lok (ps_iconst_1 (x_dk dn_384_0_0_ok 7 rfl)))
  (e_Tok2
  (e_Lok (e_st (I := eI) (er_icmpne (off := 20) (tg := 32) (x_dk dn_384_0_0_ok 8 rfl) (by decide)) nx_if2))
  (e_Lok (ld_aload_n_0 (x_dk dn_384_0_0_ok 9 rfl)))))))
  (e_Tok2
  (e_Tok2
  (e_Tok2
  (e_Lok (ld_iload_n_1 (x_dk dn_384_0_0_ok 10 rfl)))
  (e_Lok (lk_12_752 ho_384 (x_dk dn_384_0_0_ok 11 rfl))))
  (e_Tok2
  (e_Lok (ld_aload_n_0 (x_dk dn_384_0_0_ok 12 rfl)))
  (e_Tok2
  (e_Lok (lk_12_8g ho_384 (x_dk dn_384_0_0_ok 13 rfl)))
  (e_Lok (ld_iload_n_1 (x_dk dn_384_0_0_ok 14 rfl))))))
  (e_Tok2
  (e_Tok2
  (e_Lok (lk_12_294 ho_384 (x_dk dn_384_0_0_ok 15 rfl)))
  (e_Tok2
  (e_Lok (ps_iconst_0 (x_dk dn_384_0_0_ok 16 rfl)))
  (e_Lok (sm_iadd (x_dk dn_384_0_0_ok 17 rfl)))))
  (e_Tok2
  (e_Lok (ps_iconst_2 (x_dk dn_384_0_0_ok 18 rfl)))
  (e_Tok2
  (e_Lok (sm_iastore (x_dk dn_384_0_0_ok 19 rfl)))
  (e_Lok (e_rt (I := eI) (k := 0) ⟨(x_dk dn_384_0_0_ok 20 rfl), rfl⟩)))))))
def te_384 : Nat → eE := te_384_0
theorem te_384_ok : ∀ pc, e_EOq eft cls elay eI n_384 pc (te_384 pc) := te_384_0_ok
theorem ho_385 : (xm_y n_385).cls = "RobotCellHouseModel" := rfl
def dn_385_0_0 : List (Nat × Instr × Nat) := [(0, .aload_n 0, 1), (1, .getfield 8, 3), (4, .iconst 1, 1), (5, .iconst 0, 1), (6, .iastore, 1), (7, .aload_n 0, 1), (8, .getfield 8, 3), (11, .iconst 2, 1), (12, .iload_n 1, 1), (13, .iastore, 1), (14, .aload_n 0, 1), (15, .getfield 8, 3), (18, .iconst 3, 1), (19, .iload_n 2, 1), (20, .iastore, 1), (21, .aload_n 0, 1), (22, .getfield 8, 3), (25, .iconst 4, 1), (26, .aload_n 0, 1), (27, .getfield 8, 3), (30, .iconst 0, 1), (31, .iaload, 1), (32, .iastore, 1), (33, .aload_n 0, 1), (34, .iconst 2, 1)]
set_option maxRecDepth 20000 in
theorem dn_385_0_0_ok : dn_385_0_0.all (fun q => decide (decode (xm_b n_385) q.1 = .ok (q.2.1, q.2.2))) = true := xa_g_ok (by decide +kernel)
def dn_385_0_1 : List (Nat × Instr × Nat) := [(35, .iload_n 1, 1), (36, .iload_n 2, 1), (37, .invokevirtual 693, 3), (40, .iconst 0, 1), (41, .istore_n 3, 1), (42, .iload_n 3, 1), (43, .aload_n 0, 1), (44, .getfield 269, 3), (47, .if_icmp .ge 60, 3), (50, .iload_n 3, 1), (51, .invokestatic 294, 3), (54, .istore 4, 2), (56, .aload_n 0, 1), (57, .iload_n 3, 1), (58, .invokevirtual 752, 3), (61, .aload_n 0, 1), (62, .getfield 8, 3), (65, .iload 4, 2), (67, .iconst 0, 1), (68, .iadd, 1), (69, .iconst 0, 1), (70, .iastore, 1), (71, .iconst 0, 1), (72, .istore 5, 2), (74, .iload 5, 2)]
set_option maxRecDepth 20000 in
theorem dn_385_0_1_ok : dn_385_0_1.all (fun q => decide (decode (xm_b n_385) q.1 = .ok (q.2.1, q.2.2))) = true := xa_g_ok (by decide +kernel)
def dn_385_0_2 : List (Nat × Instr × Nat) := [(76, .bipush 6, 2), (78, .if_icmp .ge 23, 3), (81, .aload_n 0, 1), (82, .getfield 8, 3), (85, .iload 4, 2), (87, .bipush 22, 2), (89, .iadd, 1), (90, .iload 5, 2), (92, .iadd, 1), (93, .iconst 0, 1), (94, .iastore, 1), (95, .iinc 5 1, 3), (98, .goto (-24), 3), (101, .iinc 3 1, 3), (104, .goto (-62), 3), (107, .return_, 1)]
set_option maxRecDepth 20000 in
theorem dn_385_0_2_ok : dn_385_0_2.all (fun q => decide (decode (xm_b n_385) q.1 = .ok (q.2.1, q.2.2))) = true := xa_g_ok (by decide +kernel)
def te_385_0 : Nat → eE := (e_T 21 (e_T 11 (e_T 5 (e_T 1 (e_T 0 (e_L 0 (0, ei_load 0 2 1, 0, 0)) (e_L 1 (0, ei_getf eft elay 12 0 4, 0, 0))) (e_T 4 (e_L 4 (0, ei_push (0, 1) 5, 0, 0)) (e_L 5 (0, ei_push (0, 0) 6, 0, 0)))) (e_T 7 (e_T 6 (e_L 6 (0, ei_ast elay false 7, 0, 0)) (e_L 7 (0, ei_load 0 2 8, 0, 0))) (e_T 8 (e_L 8 (0, ei_getf eft elay 12 0 11, 0, 0)) (e_L 11 (0, ei_push (0, 2) 12, 0, 0))))) (e_T 15 (e_T 13 (e_T 12 (e_L 12 (0, ei_load 1 0 13, 0, 0)) (e_L 13 (0, ei_ast elay false 14, 0, 0))) (e_T 14 (e_L 14 (0, ei_load 0 2 15, 0, 0)) (e_L 15 (0, ei_getf eft elay 12 0 18, 0, 0)))) (e_T 19 (e_T 18 (e_L 18 (0, ei_push (0, 3) 19, 0, 0)) (e_L 19 (0, ei_load 2 0 20, 0, 0))) (e_T 20 (e_L 20 (0, ei_ast elay false 21, 0, 0)) (e_L 21 (0, ei_load 0 2 22, 0, 0)))))) (e_T 33 (e_T 27 (e_T 25 (e_T 22 (e_L 22 (0, ei_getf eft elay 12 0 25, 0, 0)) (e_L 25 (0, ei_push (0, 4) 26, 0, 0))) (e_T 26 (e_L 26 (0, ei_load 0 2 27, 0, 0)) (e_L 27 (0, ei_getf eft elay 12 0 30, 0, 0)))) (e_T 31 (e_T 30 (e_L 30 (0, ei_push (0, 0) 31, 0, 0)) (e_L 31 (0, ei_ald elay false 32, 0, 0))) (e_T 32 (e_L 32 (0, ei_ast elay false 33, 0, 0)) (e_L 33 (0, ei_load 0 2 34, 0, 0))))) (e_T 37 (e_T 35 (e_T 34 (e_L 34 (0, ei_push (0, 2) 35, 0, 0)) (e_L 35 (0, ei_load 1 0 36, 0, 0))) (e_T 36 (e_L 36 (0, ei_load 2 0 37, 0, 0)) (e_L 37 (2, e_nof, 319, 4)))) (e_T 41 (e_T 40 (e_L 40 (0, ei_push (0, 0) 41, 0, 0)) (e_L 41 (0, ei_stor 3 0 42, 0, 0))) (e_T 42 (e_L 42 (0, ei_load 3 0 43, 0, 0)) (e_T 43 (e_L 43 (0, ei_load 0 2 44, 0, 0)) (e_L 44 (0, ei_getf eft elay 12 10 47, 0, 0))))))))
set_option maxRecDepth 20000 in
set_option maxHeartbeats 4000000 in
theorem te_385_0_ok : ∀ pc, e_EOq eft cls elay eI n_385 pc (te_385_0 pc) :=
  (e_Tok2
  (e_Tok2
  (e_Tok2
  (e_Tok2
  (e_Tok2
  (e_Lok (ld_aload_n_0 (x_dk dn_385_0_0_ok 0 rfl)))
  (e_Lok (lk_12_8g ho_385 (x_dk dn_385_0_0_ok 1 rfl))))
  (e_Tok2
  (e_Lok (ps_iconst_1 (x_dk dn_385_0_0_ok 2 rfl)))
  (e_Lok (ps_iconst_0 (x_dk dn_385_0_0_ok 3 rfl)))))
  (e_Tok2
  (e_Tok2
  (e_Lok (sm_iastore (x_dk dn_385_0_0_ok 4 rfl)))
  (e_Lok (ld_aload_n_0 (x_dk dn_385_0_0_ok 5 rfl))))
  (e_Tok2
  (e_Lok (lk_12_8g ho_385 (x_dk dn_385_0_0_ok 6 rfl)))
  (e_Lok (ps_iconst_2 (x_dk dn_385_0_0_ok 7 rfl))))))
  (e_Tok2
  (e_Tok2
  (e_Tok2
  (e_Lok (ld_iload_n_1 (x_dk dn_385_0_0_ok 8 rfl)))
  (e_Lok (sm_iastore (x_dk dn_385_0_0_ok 9 rfl))))
  (e_Tok2
  (e_Lok (ld_aload_n_0 (x_dk dn_385_0_0_ok 10 rfl)))
  (e_Lok (lk_12_8g ho_385 (x_dk dn_385_0_0_ok 11 rfl)))))
  (e_Tok2
  (e_Tok2
  (e_Lok (ps_iconst_3 (x_dk dn_385_0_0_ok 12 rfl)))
  (e_Lok (ld_iload_n_2 (x_dk dn_385_0_0_ok 13 rfl))))
  (e_Tok2
  (e_Lok (sm_iastore (x_dk dn_385_0_0_ok 14 rfl)))
  (e_Lok (ld_aload_n_0 (x_dk dn_385_0_0_ok 15 rfl)))))))
  (e_Tok2
  (e_Tok2
  (e_Tok2
  (e_Tok2
  (e_Lok (lk_12_8g ho_385 (x_dk dn_385_0_0_ok 16 rfl)))
  (e_Lok (ps_iconst_4 (x_dk dn_385_0_0_ok 17 rfl))))
  (e_Tok2
  (e_Lok (ld_aload_n_0 (x_dk dn_385_0_0_ok 18 rfl)))
  (e_Lok (lk_12_8g ho_385 (x_dk dn_385_0_0_ok 19 rfl)))))
  (e_Tok2
  (e_Tok2
  (e_Lok (ps_iconst_0 (x_dk dn_385_0_0_ok 20 rfl)))
  (e_Lok (sm_iaload (x_dk dn_385_0_0_ok 21 rfl))))
  (e_Tok2
  (e_Lok (sm_iastore (x_dk dn_385_0_0_ok 22 rfl)))
  (e_Lok (ld_aload_n_0 (x_dk dn_385_0_0_ok 23 rfl))))))
  (e_Tok2
  (e_Tok2
  (e_Tok2
  (e_Lok (ps_iconst_2 (x_dk dn_385_0_0_ok 24 rfl)))
  (e_Lok (ld_iload_n_1 (x_dk dn_385_0_1_ok 0 rfl))))
  (e_Tok2
  (e_Lok (ld_iload_n_2 (x_dk dn_385_0_1_ok 1 rfl)))
  (e_Lok (lk_12_693 ho_385 (x_dk dn_385_0_1_ok 2 rfl)))))
  (e_Tok2
  (e_Tok2
  (e_Lok (ps_iconst_0 (x_dk dn_385_0_1_ok 3 rfl)))
  (e_Lok (e_st (I := eI) (er_istore_n (i := 3) (x_dk dn_385_0_1_ok 4 rfl) (by decide +kernel)) nx_stor)))
  (e_Tok2
  (e_Lok (ld_iload_n_3 (x_dk dn_385_0_1_ok 5 rfl)))
  (e_Tok2
  (e_Lok (ld_aload_n_0 (x_dk dn_385_0_1_ok 6 rfl)))
  (e_Lok (lk_12_269g ho_385 (x_dk dn_385_0_1_ok 7 rfl)))))))))
def te_385_33 : Nat → eE := (e_T 72 (e_T 61 (e_T 54 (e_T 50 (e_T 47 (e_L 47 (0, ei_if2 3 107 50, 0, 0)) (e_L 50 (0, ei_load 3 0 51, 0, 0))) (e_T 51 (e_L 51 (2, e_nof, 268, 1)) (e_L 54 (0, ei_stor 4 0 56, 0, 0)))) (e_T 57 (e_T 56 (e_L 56 (0, ei_load 0 2 57, 0, 0)) (e_L 57 (0, ei_load 3 0 58, 0, 0))) (e_T 58 (e_L 58 (2, e_nof, 383, 2)) (e_L 61 (0, ei_load 0 2 62, 0, 0))))) (e_T 68 (e_T 65 (e_T 62 (e_L 62 (0, ei_getf eft elay 12 0 65, 0, 0)) (e_L 65 (0, ei_load 4 0 67, 0, 0))) (e_T 67 (e_L 67 (0, ei_push (0, 0) 68, 0, 0)) (e_L 68 (0, ei_bin eF_add 69, 0, 0)))) (e_T 70 (e_T 69 (e_L 69 (0, ei_push (0, 0) 70, 0, 0)) (e_L 70 (0, ei_ast elay false 71, 0, 0))) (e_T 71 (e_L 71 (0, ei_push (0, 0) 72, 0, 0)) (e_L 72 (0, ei_stor 5 0 74, 0, 0)))))) (e_T 89 (e_T 81 (e_T 76 (e_T 74 (e_L 74 (0, ei_load 5 0 76, 0, 0)) (e_L 76 (0, ei_push (0, 6) 78, 0, 0))) (e_T 78 (e_L 78 (0, ei_if2 3 101 81, 0, 0)) (e_L 81 (0, ei_load 0 2 82, 0, 0)))) (e_T 85 (e_T 82 (e_L 82 (0, ei_getf eft elay 12 0 85, 0, 0)) (e_L 85 (0, ei_load 4 0 87, 0, 0))) (e_T 87 (e_L 87 (0, ei_push (0, 22) 89, 0, 0)) (e_L 89 (0, ei_bin eF_add 90, 0, 0))))) (e_T 94 (e_T 92 (e_T 90 (e_L 90 (0, ei_load 5 0 92, 0, 0)) (e_L 92 (0, ei_bin eF_add 93, 0, 0))) (e_T 93 (e_L 93 (0, ei_push (0, 0) 94, 0, 0)) (e_L 94 (0, ei_ast elay false 95, 0, 0)))) (e_T 98 (e_T 95 (e_L 95 (0, ei_inc 5 1 98, 0, 0)) (e_L 98 (0, ei_goto 74, 0, 0))) (e_T 101 (e_L 101 (0, ei_inc 3 1 104, 0, 0)) (e_T 104 (e_L 104 (0, ei_goto 42, 0, 0)) (e_L 107 (1, e_nof, 0, 0))))))))
set_option maxRecDepth 20000 in
set_option maxHeartbeats 4000000 in
theorem te_385_33_ok : ∀ pc, e_EOq eft cls elay eI n_385 pc (te_385_33 pc) :=
  (e_Tok2
  (e_Tok2
  (e_Tok2
  (e_Tok2
  (e_Tok2
  (e_Lok (e_st (I := eI) (er_icmpge (off := 60) (tg := 107) (x_dk dn_385_0_1_ok 8 rfl) (by decide)) nx_if2))
  (e_Lok (ld_iload_n_3 (x_dk dn_385_0_1_ok 9 rfl))))
  (e_Tok2
  (e_Lok (lk_12_294 ho_385 (x_dk dn_385_0_1_ok 10 rfl)))
  (e_Lok (e_st (I := eI) (er_istore (i := 4) (x_dk dn_385_0_1_ok 11 rfl) (by decide +kernel)) nx_stor))))
  (e_Tok2
  (e_Tok2
  (e_Lok (ld_aload_n_0 (x_dk dn_385_0_1_ok 12 rfl)))
  (e_Lok (ld_iload_n_3 (x_dk dn_385_0_1_ok 13 rfl))))
  (e_Tok2
  (e_Lok (lk_12_752 ho_385 (x_dk dn_385_0_1_ok 14 rfl)))
  (e_Lok (ld_aload_n_0 (x_dk dn_385_0_1_ok 15 rfl))))))
  (e_Tok2
  (e_Tok2
  (e_Tok2
  (e_Lok (lk_12_8g ho_385 (x_dk dn_385_0_1_ok 16 rfl)))
  (e_Lok (ld_iload_4 (x_dk dn_385_0_1_ok 17 rfl))))
  (e_Tok2
  (e_Lok (ps_iconst_0 (x_dk dn_385_0_1_ok 18 rfl)))
  (e_Lok (sm_iadd (x_dk dn_385_0_1_ok 19 rfl)))))
  (e_Tok2
  (e_Tok2
  (e_Lok (ps_iconst_0 (x_dk dn_385_0_1_ok 20 rfl)))
  (e_Lok (sm_iastore (x_dk dn_385_0_1_ok 21 rfl))))
  (e_Tok2
  (e_Lok (ps_iconst_0 (x_dk dn_385_0_1_ok 22 rfl)))
  (e_Lok (e_st (I := eI) (er_istore (i := 5) (x_dk dn_385_0_1_ok 23 rfl) (by decide +kernel)) nx_stor))))))
  (e_Tok2
  (e_Tok2
  (e_Tok2
  (e_Tok2
  (e_Lok (ld_iload_5 (x_dk dn_385_0_1_ok 24 rfl)))
  (e_Lok (ps_bipush_6 (x_dk dn_385_0_2_ok 0 rfl))))
  (e_Tok2
  (e_Lok (e_st (I := eI) (er_icmpge (off := 23) (tg := 101) (x_dk dn_385_0_2_ok 1 rfl) (by decide)) nx_if2))
  (e_Lok (ld_aload_n_0 (x_dk dn_385_0_2_ok 2 rfl)))))
  (e_Tok2
  (e_Tok2
  (e_Lok (lk_12_8g ho_385 (x_dk dn_385_0_2_ok 3 rfl)))
  (e_Lok (ld_iload_4 (x_dk dn_385_0_2_ok 4 rfl))))
  (e_Tok2
  (e_Lok (ps_bipush_22 (x_dk dn_385_0_2_ok 5 rfl)))
  (e_Lok (sm_iadd (x_dk dn_385_0_2_ok 6 rfl))))))
  (e_Tok2
  (e_Tok2
  (e_Tok2
  (e_Lok (ld_iload_5 (x_dk dn_385_0_2_ok 7 rfl)))
  (e_Lok (sm_iadd (x_dk dn_385_0_2_ok 8 rfl))))
  (e_Tok2
  (e_Lok (ps_iconst_0 (x_dk dn_385_0_2_ok 9 rfl)))
  (e_Lok (sm_iastore (x_dk dn_385_0_2_ok 10 rfl)))))
  (e_Tok2
  (e_Tok2
  (e_Lok (e_st (I := eI) (er_iinc (i := 5) (n := 1) (x_dk dn_385_0_2_ok 11 rfl) (by decide +kernel) (by decide)) nx_inc))
  (e_Lok (e_st (I := eI) (er_goto (off := (-24)) (tg := 74) (x_dk dn_385_0_2_ok 12 rfl) (by decide)) nx_goto)))
  (e_Tok2
  (e_Lok (e_st (I := eI) (er_iinc (i := 3) (n := 1) (x_dk dn_385_0_2_ok 13 rfl) (by decide +kernel) (by decide)) nx_inc))
  (e_Tok2
  (e_Lok (e_st (I := eI) (er_goto (off := (-62)) (tg := 42) (x_dk dn_385_0_2_ok 14 rfl) (by decide)) nx_goto))
  (e_Lok (e_rt (I := eI) (k := 0) ⟨(x_dk dn_385_0_2_ok 15 rfl), rfl⟩))))))))
def te_385 : Nat → eE := (e_T 44 te_385_0 te_385_33)
theorem te_385_ok : ∀ pc, e_EOq eft cls elay eI n_385 pc (te_385 pc) := (e_Tok2 (te_385_0_ok) (te_385_33_ok))
theorem ho_386 : (xm_y n_386).cls = "RobotCellHouseModel" := rfl
def dn_386_0_0 : List (Nat × Instr × Nat) := [(0, .iload_n 1, 1), (1, .iload_n 3, 1), (2, .iadd, 1), (3, .iload_n 2, 1), (4, .if_icmp .ge 9, 3), (7, .iload_n 1, 1), (8, .iload_n 3, 1), (9, .iadd, 1), (10, .goto 4, 3), (13, .iload_n 2, 1), (14, .istore 4, 2), (16, .iload 4, 2), (18, .ifCond .gt 6, 3), (21, .iload 4, 2), (23, .ireturn, 1), (24, .iconst 0, 1), (25, .istore 5, 2), (27, .iload 5, 2), (29, .iload 4, 2), (31, .if_icmp .ge 68, 3), (34, .iload 5, 2), (36, .iload 4, 2), (38, .iadd, 1), (39, .iconst 1, 1), (40, .iadd, 1)]
set_option maxRecDepth 20000 in
theorem dn_386_0_0_ok : dn_386_0_0.all (fun q => decide (decode (xm_b n_386) q.1 = .ok (q.2.1, q.2.2))) = true := xa_g_ok (by decide +kernel)
def dn_386_0_1 : List (Nat × Instr × Nat) := [(41, .iconst 2, 1), (42, .idiv, 1), (43, .istore 6, 2), (45, .iload 6, 2), (47, .iload_n 3, 1), (48, .iadd, 1), (49, .iconst 1, 1), (50, .isub, 1), (51, .iload_n 3, 1), (52, .idiv, 1), (53, .i2l, 1), (54, .lstore 7, 2), (56, .lload 7, 2), (58, .iload 6, 2), (60, .i2l, 1), (61, .lmul, 1), (62, .iload_n 3, 1), (63, .i2l, 1), (64, .lload 7, 2), (66, .lload 7, 2), (68, .lconst 1, 1), (69, .lsub, 1), (70, .lmul, 1), (71, .ldc2_w 750, 3), (74, .ldiv, 1)]
set_option maxRecDepth 20000 in
theorem dn_386_0_1_ok : dn_386_0_1.all (fun q => decide (decode (xm_b n_386) q.1 = .ok (q.2.1, q.2.2))) = true := xa_g_ok (by decide +kernel)
def dn_386_0_2 : List (Nat × Instr × Nat) := [(75, .lmul, 1), (76, .lsub, 1), (77, .iload_n 0, 1), (78, .i2l, 1), (79, .lcmp, 1), (80, .ifCond .gt 10, 3), (83, .iload 6, 2), (85, .istore 5, 2), (87, .goto 9, 3), (90, .iload 6, 2), (92, .iconst 1, 1), (93, .isub, 1), (94, .istore 4, 2), (96, .goto (-69), 3), (99, .iload 5, 2), (101, .ireturn, 1)]
set_option maxRecDepth 20000 in
theorem dn_386_0_2_ok : dn_386_0_2.all (fun q => decide (decode (xm_b n_386) q.1 = .ok (q.2.1, q.2.2))) = true := xa_g_ok (by decide +kernel)
def te_386_0 : Nat → eE := (e_T 24 (e_T 9 (e_T 3 (e_T 1 (e_T 0 (e_L 0 (0, ei_load 1 0 1, 0, 0)) (e_L 1 (0, ei_load 3 0 2, 0, 0))) (e_T 2 (e_L 2 (0, ei_bin eF_add 3, 0, 0)) (e_L 3 (0, ei_load 2 0 4, 0, 0)))) (e_T 7 (e_T 4 (e_L 4 (0, ei_if2 3 13 7, 0, 0)) (e_L 7 (0, ei_load 1 0 8, 0, 0))) (e_T 8 (e_L 8 (0, ei_load 3 0 9, 0, 0)) (e_L 9 (0, ei_bin eF_add 10, 0, 0))))) (e_T 16 (e_T 13 (e_T 10 (e_L 10 (0, ei_goto 14, 0, 0)) (e_L 13 (0, ei_load 2 0 14, 0, 0))) (e_T 14 (e_L 14 (0, ei_stor 4 0 16, 0, 0)) (e_L 16 (0, ei_load 4 0 18, 0, 0)))) (e_T 21 (e_T 18 (e_L 18 (0, ei_if1 4 24 21, 0, 0)) (e_L 21 (0, ei_load 4 0 23, 0, 0))) (e_T 23 (e_L 23 (1, e_nof, 1, 0)) (e_L 24 (0, ei_push (0, 0) 25, 0, 0)))))) (e_T 39 (e_T 31 (e_T 27 (e_T 25 (e_L 25 (0, ei_stor 5 0 27, 0, 0)) (e_L 27 (0, ei_load 5 0 29, 0, 0))) (e_T 29 (e_L 29 (0, ei_load 4 0 31, 0, 0)) (e_L 31 (0, ei_if2 3 99 34, 0, 0)))) (e_T 36 (e_T 34 (e_L 34 (0, ei_load 5 0 36, 0, 0)) (e_L 36 (0, ei_load 4 0 38, 0, 0))) (e_T 38 (e_L 38 (0, ei_bin eF_add 39, 0, 0)) (e_L 39 (0, ei_push (0, 1) 40, 0, 0))))) (e_T 43 (e_T 41 (e_T 40 (e_L 40 (0, ei_bin eF_add 41, 0, 0)) (e_L 41 (0, ei_push (0, 2) 42, 0, 0))) (e_T 42 (e_L 42 (0, ei_bin eF_div 43, 0, 0)) (e_L 43 (0, ei_stor 6 0 45, 0, 0)))) (e_T 47 (e_T 45 (e_L 45 (0, ei_load 6 0 47, 0, 0)) (e_L 47 (0, ei_load 3 0 48, 0, 0))) (e_T 48 (e_L 48 (0, ei_bin eF_add 49, 0, 0)) (e_T 49 (e_L 49 (0, ei_push (0, 1) 50, 0, 0)) (e_L 50 (0, ei_bin eF_sub 51, 0, 0))))))))
set_option maxRecDepth 20000 in
set_option maxHeartbeats 4000000 in
theorem te_386_0_ok : ∀ pc, e_EOq eft cls elay eI n_386 pc (te_386_0 pc) :=
  (e_Tok2
  (e_Tok2
  (e_Tok2
  (e_Tok2
  (e_Tok2
  (e_Lok (ld_iload_n_1 (x_dk dn_386_0_0_ok 0 rfl)))
  (e_Lok (ld_iload_n_3 (x_dk dn_386_0_0_ok 1 rfl))))
  (e_Tok2
  (e_Lok (sm_iadd (x_dk dn_386_0_0_ok 2 rfl)))
  (e_Lok (ld_iload_n_2 (x_dk dn_386_0_0_ok 3 rfl)))))
  (e_Tok2
  (e_Tok2
  (e_Lok (e_st (I := eI) (er_icmpge (off := 9) (tg := 13) (x_dk dn_386_0_0_ok 4 rfl) (by decide)) nx_if2))
  (e_Lok (ld_iload_n_1 (x_dk dn_386_0_0_ok 5 rfl))))
  (e_Tok2
  (e_Lok (ld_iload_n_3 (x_dk dn_386_0_0_ok 6 rfl)))
  (e_Lok (sm_iadd (x_dk dn_386_0_0_ok 7 rfl))))))
  (e_Tok2
  (e_Tok2
  (e_Tok2
  (e_Lok (e_st (I := eI) (er_goto (off := 4) (tg := 14) (x_dk dn_386_0_0_ok 8 rfl) (by decide)) nx_goto))
  (e_Lok (ld_iload_n_2 (x_dk dn_386_0_0_ok 9 rfl))))
  (e_Tok2
  (e_Lok (e_st (I := eI) (er_istore (i := 4) (x_dk dn_386_0_0_ok 10 rfl) (by decide +kernel)) nx_stor))
  (e_Lok (ld_iload_4 (x_dk dn_386_0_0_ok 11 rfl)))))
  (e_Tok2
  (e_Tok2
  (e_Lok (e_st (I := eI) (er_ifgt (off := 6) (tg := 24) (x_dk dn_386_0_0_ok 12 rfl) (by decide)) nx_if1))
  (e_Lok (ld_iload_4 (x_dk dn_386_0_0_ok 13 rfl))))
  (e_Tok2
  (e_Lok (e_rt (I := eI) (k := 1) ⟨(x_dk dn_386_0_0_ok 14 rfl), rfl⟩))
  (e_Lok (ps_iconst_0 (x_dk dn_386_0_0_ok 15 rfl)))))))
  (e_Tok2
  (e_Tok2
  (e_Tok2
  (e_Tok2
  (e_Lok (e_st (I := eI) (er_istore (i := 5) (x_dk dn_386_0_0_ok 16 rfl) (by decide +kernel)) nx_stor))
  (e_Lok (ld_iload_5 (x_dk dn_386_0_0_ok 17 rfl))))
  (e_Tok2
  (e_Lok (ld_iload_4 (x_dk dn_386_0_0_ok 18 rfl)))
  (e_Lok (e_st (I := eI) (er_icmpge (off := 68) (tg := 99) (x_dk dn_386_0_0_ok 19 rfl) (by decide)) nx_if2))))
  (e_Tok2
  (e_Tok2
  (e_Lok (ld_iload_5 (x_dk dn_386_0_0_ok 20 rfl)))
  (e_Lok (ld_iload_4 (x_dk dn_386_0_0_ok 21 rfl))))
  (e_Tok2
  (e_Lok (sm_iadd (x_dk dn_386_0_0_ok 22 rfl)))
  (e_Lok (ps_iconst_1 (x_dk dn_386_0_0_ok 23 rfl))))))
  (e_Tok2
  (e_Tok2
  (e_Tok2
  (e_Lok (sm_iadd (x_dk dn_386_0_0_ok 24 rfl)))
  (e_Lok (ps_iconst_2 (x_dk dn_386_0_1_ok 0 rfl))))
  (e_Tok2
  (e_Lok (e_st (I := eI) (er_idiv (x_dk dn_386_0_1_ok 1 rfl)) nx_bin))
  (e_Lok (e_st (I := eI) (er_istore (i := 6) (x_dk dn_386_0_1_ok 2 rfl) (by decide +kernel)) nx_stor))))
  (e_Tok2
  (e_Tok2
  (e_Lok (ld_iload_6 (x_dk dn_386_0_1_ok 3 rfl)))
  (e_Lok (ld_iload_n_3 (x_dk dn_386_0_1_ok 4 rfl))))
  (e_Tok2
  (e_Lok (sm_iadd (x_dk dn_386_0_1_ok 5 rfl)))
  (e_Tok2
  (e_Lok (ps_iconst_1 (x_dk dn_386_0_1_ok 6 rfl)))
  (e_Lok (sm_isub (x_dk dn_386_0_1_ok 7 rfl)))))))))
def te_386_33 : Nat → eE := (e_T 71 (e_T 61 (e_T 54 (e_T 52 (e_T 51 (e_L 51 (0, ei_load 3 0 52, 0, 0)) (e_L 52 (0, ei_bin eF_div 53, 0, 0))) (e_T 53 (e_L 53 (0, ei_un (fun x => (4, x)) 54, 0, 0)) (e_L 54 (0, ei_stor 7 1 56, 0, 0)))) (e_T 58 (e_T 56 (e_L 56 (0, ei_load 7 1 58, 0, 0)) (e_L 58 (0, ei_load 6 0 60, 0, 0))) (e_T 60 (e_L 60 (0, ei_un (fun x => (4, x)) 61, 0, 0)) (e_L 61 (0, ei_binL eG_mul 62, 0, 0))))) (e_T 66 (e_T 63 (e_T 62 (e_L 62 (0, ei_load 3 0 63, 0, 0)) (e_L 63 (0, ei_un (fun x => (4, x)) 64, 0, 0))) (e_T 64 (e_L 64 (0, ei_load 7 1 66, 0, 0)) (e_L 66 (0, ei_load 7 1 68, 0, 0)))) (e_T 69 (e_T 68 (e_L 68 (0, ei_push (4, 1) 69, 0, 0)) (e_L 69 (0, ei_binL eG_sub 70, 0, 0))) (e_T 70 (e_L 70 (0, ei_binL eG_mul 71, 0, 0)) (e_L 71 (0, ei_push (4, 2) 74, 0, 0)))))) (e_T 83 (e_T 77 (e_T 75 (e_T 74 (e_L 74 (0, ei_binL eG_div 75, 0, 0)) (e_L 75 (0, ei_binL eG_mul 76, 0, 0))) (e_T 76 (e_L 76 (0, ei_binL eG_sub 77, 0, 0)) (e_L 77 (0, ei_load 0 0 78, 0, 0)))) (e_T 79 (e_T 78 (e_L 78 (0, ei_un (fun x => (4, x)) 79, 0, 0)) (e_L 79 (0, ei_binL eG_cmp 80, 0, 0))) (e_T 80 (e_L 80 (0, ei_if1 4 90 83, 0, 0)) (e_L 83 (0, ei_load 6 0 85, 0, 0))))) (e_T 92 (e_T 87 (e_T 85 (e_L 85 (0, ei_stor 5 0 87, 0, 0)) (e_L 87 (0, ei_goto 96, 0, 0))) (e_T 90 (e_L 90 (0, ei_load 6 0 92, 0, 0)) (e_L 92 (0, ei_push (0, 1) 93, 0, 0)))) (e_T 94 (e_T 93 (e_L 93 (0, ei_bin eF_sub 94, 0, 0)) (e_L 94 (0, ei_stor 4 0 96, 0, 0))) (e_T 96 (e_L 96 (0, ei_goto 27, 0, 0)) (e_T 99 (e_L 99 (0, ei_load 5 0 101, 0, 0)) (e_L 101 (1, e_nof, 1, 0))))))))
set_option maxRecDepth 20000 in
set_option maxHeartbeats 4000000 in
theorem te_386_33_ok : ∀ pc, e_EOq eft cls elay eI n_386 pc (te_386_33 pc) :=
  (e_Tok2
  (e_Tok2
  (e_Tok2
  (e_Tok2
  (e_Tok2
  (e_Lok (ld_iload_n_3 (x_dk dn_386_0_1_ok 8 rfl)))
  (e_Lok (e_st (I := eI) (er_idiv (x_dk dn_386_0_1_ok 9 rfl)) nx_bin)))
  (e_Tok2
  (e_Lok (e_st (I := eI) (er_i2l (x_dk dn_386_0_1_ok 10 rfl)) (nx_un (fun _ => rfl))))
  (e_Lok (e_st (I := eI) (er_lstore (i := 7) (x_dk dn_386_0_1_ok 11 rfl) (by decide +kernel)) nx_stor))))
  (e_Tok2
  (e_Tok2
  (e_Lok (ld_lload_7 (x_dk dn_386_0_1_ok 12 rfl)))
  (e_Lok (ld_iload_6 (x_dk dn_386_0_1_ok 13 rfl))))
  (e_Tok2
  (e_Lok (e_st (I := eI) (er_i2l (x_dk dn_386_0_1_ok 14 rfl)) (nx_un (fun _ => rfl))))
  (e_Lok (e_st (I := eI) (er_lmul (x_dk dn_386_0_1_ok 15 rfl)) (nx_binL bG_lmul))))))
  (e_Tok2
  (e_Tok2
  (e_Tok2
  (e_Lok (ld_iload_n_3 (x_dk dn_386_0_1_ok 16 rfl)))
  (e_Lok (e_st (I := eI) (er_i2l (x_dk dn_386_0_1_ok 17 rfl)) (nx_un (fun _ => rfl)))))
  (e_Tok2
  (e_Lok (ld_lload_7 (x_dk dn_386_0_1_ok 18 rfl)))
  (e_Lok (ld_lload_7 (x_dk dn_386_0_1_ok 19 rfl)))))
  (e_Tok2
  (e_Tok2
  (e_Lok (ps_lconst_1 (x_dk dn_386_0_1_ok 20 rfl)))
  (e_Lok (e_st (I := eI) (er_lsub (x_dk dn_386_0_1_ok 21 rfl)) (nx_binL bG_lsub))))
  (e_Tok2
  (e_Lok (e_st (I := eI) (er_lmul (x_dk dn_386_0_1_ok 22 rfl)) (nx_binL bG_lmul)))
  (e_Lok (e_st (I := eI) (er_ldc2 (ix := 750) (z := 2) (v := 2) (x_dk dn_386_0_1_ok 23 rfl) (in_t12 (List.mem_of_getElem? (i := 185) rfl) rfl) (by decide)) (nx_push (Or.inl rfl))))))))
  (e_Tok2
  (e_Tok2
  (e_Tok2
  (e_Tok2
  (e_Lok (e_st (I := eI) (er_ldiv (x_dk dn_386_0_1_ok 24 rfl)) (nx_binL bG_ldiv)))
  (e_Lok (e_st (I := eI) (er_lmul (x_dk dn_386_0_2_ok 0 rfl)) (nx_binL bG_lmul))))
  (e_Tok2
  (e_Lok (e_st (I := eI) (er_lsub (x_dk dn_386_0_2_ok 1 rfl)) (nx_binL bG_lsub)))
  (e_Lok (ld_iload_n_0 (x_dk dn_386_0_2_ok 2 rfl)))))
  (e_Tok2
  (e_Tok2
  (e_Lok (e_st (I := eI) (er_i2l (x_dk dn_386_0_2_ok 3 rfl)) (nx_un (fun _ => rfl))))
  (e_Lok (e_st (I := eI) (er_lcmp (x_dk dn_386_0_2_ok 4 rfl)) (nx_binL bG_lcmp))))
  (e_Tok2
  (e_Lok (e_st (I := eI) (er_ifgt (off := 10) (tg := 90) (x_dk dn_386_0_2_ok 5 rfl) (by decide)) nx_if1))
  (e_Lok (ld_iload_6 (x_dk dn_386_0_2_ok 6 rfl))))))
  (e_Tok2
  (e_Tok2
  (e_Tok2
  (e_Lok (e_st (I := eI) (er_istore (i := 5) (x_dk dn_386_0_2_ok 7 rfl) (by decide +kernel)) nx_stor))
  (e_Lok (e_st (I := eI) (er_goto (off := 9) (tg := 96) (x_dk dn_386_0_2_ok 8 rfl) (by decide)) nx_goto)))
  (e_Tok2
  (e_Lok (ld_iload_6 (x_dk dn_386_0_2_ok 9 rfl)))
  (e_Lok (ps_iconst_1 (x_dk dn_386_0_2_ok 10 rfl)))))
  (e_Tok2
  (e_Tok2
  (e_Lok (sm_isub (x_dk dn_386_0_2_ok 11 rfl)))
  (e_Lok (e_st (I := eI) (er_istore (i := 4) (x_dk dn_386_0_2_ok 12 rfl) (by decide +kernel)) nx_stor)))
  (e_Tok2
  (e_Lok (e_st (I := eI) (er_goto (off := (-69)) (tg := 27) (x_dk dn_386_0_2_ok 13 rfl) (by decide)) nx_goto))
  (e_Tok2
  (e_Lok (ld_iload_5 (x_dk dn_386_0_2_ok 14 rfl)))
  (e_Lok (e_rt (I := eI) (k := 1) ⟨(x_dk dn_386_0_2_ok 15 rfl), rfl⟩))))))))
def te_386 : Nat → eE := (e_T 50 te_386_0 te_386_33)
theorem te_386_ok : ∀ pc, e_EOq eft cls elay eI n_386 pc (te_386 pc) := (e_Tok2 (te_386_0_ok) (te_386_33_ok))
theorem ho_387 : (xm_y n_387).cls = "RobotCellHouseModel" := rfl
def dn_387_0_0 : List (Nat × Instr × Nat) := [(0, .iload_n 0, 1), (1, .iload_n 1, 1), (2, .if_icmp .le 9, 3), (5, .iload_n 0, 1), (6, .iload_n 1, 1), (7, .isub, 1), (8, .goto 16, 3), (11, .iload_n 0, 1), (12, .iload_n 1, 1), (13, .ineg, 1), (14, .if_icmp .ge 9, 3), (17, .iload_n 0, 1), (18, .iload_n 1, 1), (19, .iadd, 1), (20, .goto 4, 3), (23, .iconst 0, 1), (24, .ireturn, 1)]
set_option maxRecDepth 20000 in
theorem dn_387_0_0_ok : dn_387_0_0.all (fun q => decide (decode (xm_b n_387) q.1 = .ok (q.2.1, q.2.2))) = true := xa_g_ok (by decide +kernel)
def te_387_0 : Nat → eE := (e_T 11 (e_T 5 (e_T 1 (e_T 0 (e_L 0 (0, ei_load 0 0 1, 0, 0)) (e_L 1 (0, ei_load 1 0 2, 0, 0))) (e_T 2 (e_L 2 (0, ei_if2 5 11 5, 0, 0)) (e_L 5 (0, ei_load 0 0 6, 0, 0)))) (e_T 7 (e_T 6 (e_L 6 (0, ei_load 1 0 7, 0, 0)) (e_L 7 (0, ei_bin eF_sub 8, 0, 0))) (e_T 8 (e_L 8 (0, ei_goto 24, 0, 0)) (e_L 11 (0, ei_load 0 0 12, 0, 0))))) (e_T 17 (e_T 13 (e_T 12 (e_L 12 (0, ei_load 1 0 13, 0, 0)) (e_L 13 (0, ei_un (fun x => (0, e32 (-x))) 14, 0, 0))) (e_T 14 (e_L 14 (0, ei_if2 3 23 17, 0, 0)) (e_L 17 (0, ei_load 0 0 18, 0, 0)))) (e_T 19 (e_T 18 (e_L 18 (0, ei_load 1 0 19, 0, 0)) (e_L 19 (0, ei_bin eF_add 20, 0, 0))) (e_T 20 (e_L 20 (0, ei_goto 24, 0, 0)) (e_T 23 (e_L 23 (0, ei_push (0, 0) 24, 0, 0)) (e_L 24 (1, e_nof, 1, 0)))))))
set_option maxRecDepth 20000 in
set_option maxHeartbeats 4000000 in
theorem te_387_0_ok : ∀ pc, e_EOq eft cls elay eI n_387 pc (te_387_0 pc) :=
  (e_Tok2
  (e_Tok2
  (e_Tok2
  (e_Tok2
  (e_Lok (ld_iload_n_0 (x_dk dn_387_0_0_ok 0 rfl)))
  (e_Lok (ld_iload_n_1 (x_dk dn_387_0_0_ok 1 rfl))))
  (e_Tok2
  (e_Lok (e_st (I := eI) (er_icmple (off := 9) (tg := 11) (x_dk dn_387_0_0_ok 2 rfl) (by decide)) nx_if2))
  (e_Lok (ld_iload_n_0 (x_dk dn_387_0_0_ok 3 rfl)))))
  (e_Tok2
  (e_Tok2
  (e_Lok (ld_iload_n_1 (x_dk dn_387_0_0_ok 4 rfl)))
  (e_Lok (sm_isub (x_dk dn_387_0_0_ok 5 rfl))))
  (e_Tok2
  (e_Lok (e_st (I := eI) (er_goto (off := 16) (tg := 24) (x_dk dn_387_0_0_ok 6 rfl) (by decide)) nx_goto))
  (e_Lok (ld_iload_n_0 (x_dk dn_387_0_0_ok 7 rfl))))))
  (e_Tok2
  (e_Tok2
  (e_Tok2
  (e_Lok (ld_iload_n_1 (x_dk dn_387_0_0_ok 8 rfl)))
  (e_Lok (e_st (I := eI) (er_ineg (x_dk dn_387_0_0_ok 9 rfl)) (nx_un (fun _ => rfl)))))
  (e_Tok2
  (e_Lok (e_st (I := eI) (er_icmpge (off := 9) (tg := 23) (x_dk dn_387_0_0_ok 10 rfl) (by decide)) nx_if2))
  (e_Lok (ld_iload_n_0 (x_dk dn_387_0_0_ok 11 rfl)))))
  (e_Tok2
  (e_Tok2
  (e_Lok (ld_iload_n_1 (x_dk dn_387_0_0_ok 12 rfl)))
  (e_Lok (sm_iadd (x_dk dn_387_0_0_ok 13 rfl))))
  (e_Tok2
  (e_Lok (e_st (I := eI) (er_goto (off := 4) (tg := 24) (x_dk dn_387_0_0_ok 14 rfl) (by decide)) nx_goto))
  (e_Tok2
  (e_Lok (ps_iconst_0 (x_dk dn_387_0_0_ok 15 rfl)))
  (e_Lok (e_rt (I := eI) (k := 1) ⟨(x_dk dn_387_0_0_ok 16 rfl), rfl⟩)))))))
def te_387 : Nat → eE := te_387_0
theorem te_387_ok : ∀ pc, e_EOq eft cls elay eI n_387 pc (te_387 pc) := te_387_0_ok
theorem ho_388 : (xm_y n_388).cls = "RobotCellHouseModel" := rfl
def dn_388_0_0 : List (Nat × Instr × Nat) := [(0, .iload_n 1, 1), (1, .invokestatic 294, 3), (4, .istore_n 2, 1), (5, .aload_n 0, 1), (6, .getfield 8, 3), (9, .iload_n 2, 1), (10, .iconst 0, 1), (11, .iadd, 1), (12, .iaload, 1), (13, .ifCond .ne 4, 3), (16, .return_, 1), (17, .aload_n 0, 1), (18, .getfield 8, 3), (21, .iload_n 2, 1), (22, .iconst 0, 1), (23, .iadd, 1), (24, .iaload, 1), (25, .iconst 1, 1), (26, .if_icmp .ne 7, 3), (29, .iconst 1, 1), (30, .goto 4, 3), (33, .iconst 0, 1), (34, .istore_n 3, 1), (35, .iconst 1, 1), (36, .istore 4, 2)]
set_option maxRecDepth 20000 in
theorem dn_388_0_0_ok : dn_388_0_0.all (fun q => decide (decode (xm_b n_388) q.1 = .ok (q.2.1, q.2.2))) = true := xa_g_ok (by decide +kernel)
def dn_388_0_1 : List (Nat × Instr × Nat) := [(38, .iconst 0, 1), (39, .istore 5, 2), (41, .iconst 0, 1), (42, .istore 6, 2), (44, .iload 6, 2), (46, .aload_n 0, 1), (47, .getfield 43, 3), (50, .iload_n 1, 1), (51, .iaload, 1), (52, .if_icmp .ge 253, 3), (55, .aload_n 0, 1), (56, .getfield 8, 3), (59, .iload_n 2, 1), (60, .bipush 22, 2), (62, .iadd, 1), (63, .iload 6, 2), (65, .iadd, 1), (66, .iaload, 1), (67, .istore 7, 2), (69, .iload_n 3, 1), (70, .ifCond .eq 31, 3), (73, .aload_n 0, 1), (74, .getfield 8, 3), (77, .iload_n 2, 1), (78, .bipush 28, 2)]
set_option maxRecDepth 20000 in
theorem dn_388_0_1_ok : dn_388_0_1.all (fun q => decide (decode (xm_b n_388) q.1 = .ok (q.2.1, q.2.2))) = true := xa_g_ok (by decide +kernel)
def dn_388_0_2 : List (Nat × Instr × Nat) := [(80, .iadd, 1), (81, .iload 6, 2), (83, .iadd, 1), (84, .iaload, 1), (85, .aload_n 0, 1), (86, .getfield 8, 3), (89, .iload_n 2, 1), (90, .bipush 16, 2), (92, .iadd, 1), (93, .iload 6, 2), (95, .iadd, 1), (96, .iaload, 1), (97, .isub, 1), (98, .goto 4, 3), (101, .iconst 0, 1), (102, .istore 8, 2), (104, .iload 8, 2), (106, .ifCond .ge 40, 3), (109, .iload 8, 2), (111, .ineg, 1), (112, .iload 7, 2), (114, .ineg, 1), (115, .aload_n 0, 1), (116, .getfield 55, 3), (119, .bipush 6, 2)]
set_option maxRecDepth 20000 in
theorem dn_388_0_2_ok : dn_388_0_2.all (fun q => decide (decode (xm_b n_388) q.1 = .ok (q.2.1, q.2.2))) = true := xa_g_ok (by decide +kernel)
def dn_388_0_3 : List (Nat × Instr × Nat) := [(121, .iload_n 1, 1), (122, .imul, 1), (123, .iload 6, 2), (125, .iadd, 1), (126, .iaload, 1), (127, .aload_n 0, 1), (128, .getfield 58, 3), (131, .bipush 6, 2), (133, .iload_n 1, 1), (134, .imul, 1), (135, .iload 6, 2), (137, .iadd, 1), (138, .iaload, 1), (139, .invokestatic 755, 3), (142, .ineg, 1), (143, .goto 34, 3), (146, .iload 8, 2), (148, .iload 7, 2), (150, .aload_n 0, 1), (151, .getfield 55, 3), (154, .bipush 6, 2), (156, .iload_n 1, 1), (157, .imul, 1), (158, .iload 6, 2), (160, .iadd, 1)]
set_option maxRecDepth 20000 in
theorem dn_388_0_3_ok : dn_388_0_3.all (fun q => decide (decode (xm_b n_388) q.1 = .ok (q.2.1, q.2.2))) = true := xa_g_ok (by decide +kernel)
def dn_388_1_0 : List (Nat × Instr × Nat) := [(161, .iaload, 1), (162, .aload_n 0, 1), (163, .getfield 58, 3), (166, .bipush 6, 2), (168, .iload_n 1, 1), (169, .imul, 1), (170, .iload 6, 2), (172, .iadd, 1), (173, .iaload, 1), (174, .invokestatic 755, 3), (177, .istore 9, 2), (179, .iload_n 3, 1), (180, .ifCond .eq 8, 3), (183, .iload 9, 2), (185, .goto 20, 3), (188, .iload 7, 2), (190, .aload_n 0, 1), (191, .getfield 58, 3), (194, .bipush 6, 2), (196, .iload_n 1, 1), (197, .imul, 1), (198, .iload 6, 2), (200, .iadd, 1), (201, .iaload, 1), (202, .invokestatic 759, 3)]
set_option maxRecDepth 20000 in
theorem dn_388_1_0_ok : dn_388_1_0.all (fun q => decide (decode (xm_b n_388) q.1 = .ok (q.2.1, q.2.2))) = true := xa_g_ok (by decide +kernel)
def dn_388_1_1 : List (Nat × Instr × Nat) := [(205, .istore 9, 2), (207, .aload_n 0, 1), (208, .getfield 8, 3), (211, .iload_n 2, 1), (212, .bipush 22, 2), (214, .iadd, 1), (215, .iload 6, 2), (217, .iadd, 1), (218, .iload 9, 2), (220, .iastore, 1), (221, .aload_n 0, 1), (222, .getfield 8, 3), (225, .iload_n 2, 1), (226, .bipush 16, 2), (228, .iadd, 1), (229, .iload 6, 2), (231, .iadd, 1), (232, .dup2, 1), (233, .iaload, 1), (234, .iload 9, 2), (236, .iadd, 1), (237, .iastore, 1), (238, .iload 5, 2), (240, .iload 9, 2), (242, .ifCond .eq 7, 3)]
set_option maxRecDepth 20000 in
theorem dn_388_1_1_ok : dn_388_1_1.all (fun q => decide (decode (xm_b n_388) q.1 = .ok (q.2.1, q.2.2))) = true := xa_g_ok (by decide +kernel)
def dn_388_1_2 : List (Nat × Instr × Nat) := [(245, .iconst 1, 1), (246, .goto 4, 3), (249, .iconst 0, 1), (250, .ior, 1), (251, .istore 5, 2), (253, .iload 4, 2), (255, .iload 9, 2), (257, .ifCond .ne 38, 3), (260, .iload_n 3, 1), (261, .ifCond .eq 30, 3), (264, .aload_n 0, 1), (265, .getfield 8, 3), (268, .iload_n 2, 1), (269, .bipush 28, 2), (271, .iadd, 1), (272, .iload 6, 2), (274, .iadd, 1), (275, .iaload, 1), (276, .aload_n 0, 1), (277, .getfield 8, 3), (280, .iload_n 2, 1), (281, .bipush 16, 2), (283, .iadd, 1), (284, .iload 6, 2), (286, .iadd, 1)]
set_option maxRecDepth 20000 in
theorem dn_388_1_2_ok : dn_388_1_2.all (fun q => decide (decode (xm_b n_388) q.1 = .ok (q.2.1, q.2.2))) = true := xa_g_ok (by decide +kernel)
def dn_388_1_3 : List (Nat × Instr × Nat) := [(287, .iaload, 1), (288, .if_icmp .ne 7, 3), (291, .iconst 1, 1), (292, .goto 4, 3), (295, .iconst 0, 1), (296, .iand, 1), (297, .istore 4, 2), (299, .iinc 6 1, 3), (302, .goto (-258), 3), (305, .iload 5, 2), (307, .ifCond .eq 8, 3), (310, .aload_n 0, 1), (311, .iload_n 1, 1), (312, .invokevirtual 762, 3), (315, .iload_n 3, 1), (316, .ifCond .ne 22, 3), (319, .aload_n 0, 1), (320, .getfield 8, 3), (323, .iload_n 2, 1), (324, .iconst 0, 1), (325, .iadd, 1), (326, .iload 4, 2), (328, .ifCond .eq 7, 3), (331, .iconst 0, 1), (332, .goto 4, 3)]
set_option maxRecDepth 20000 in
theorem dn_388_1_3_ok : dn_388_1_3.all (fun q => decide (decode (xm_b n_388) q.1 = .ok (q.2.1, q.2.2))) = true := xa_g_ok (by decide +kernel)
def dn_388_2_0 : List (Nat × Instr × Nat) := [(335, .iconst 2, 1), (336, .iastore, 1), (337, .return_, 1), (338, .aload_n 0, 1), (339, .getfield 8, 3), (342, .iload_n 2, 1), (343, .bipush 8, 2), (345, .iadd, 1), (346, .dup2, 1), (347, .iaload, 1), (348, .iconst 1, 1), (349, .iadd, 1), (350, .iastore, 1), (351, .iload 4, 2), (353, .ifCond .eq 76, 3), (356, .aload_n 0, 1), (357, .bipush 8, 2), (359, .iload_n 1, 1), (360, .aload_n 0, 1), (361, .getfield 8, 3), (364, .iload_n 2, 1), (365, .bipush 8, 2), (367, .iadd, 1), (368, .iaload, 1), (369, .invokevirtual 693, 3)]
set_option maxRecDepth 20000 in
theorem dn_388_2_0_ok : dn_388_2_0.all (fun q => decide (decode (xm_b n_388) q.1 = .ok (q.2.1, q.2.2))) = true := xa_g_ok (by decide +kernel)
def dn_388_2_1 : List (Nat × Instr × Nat) := [(372, .aload_n 0, 1), (373, .iconst 1, 1), (374, .aload_n 0, 1), (375, .getfield 8, 3), (378, .iload_n 2, 1), (379, .bipush 8, 2), (381, .iadd, 1), (382, .iaload, 1), (383, .aload_n 0, 1), (384, .getfield 8, 3), (387, .iload_n 2, 1), (388, .bipush 11, 2), (390, .iadd, 1), (391, .iaload, 1), (392, .iconst 1, 1), (393, .iadd, 1), (394, .if_icmp .eq 7, 3), (397, .iconst 1, 1), (398, .goto 4, 3), (401, .iconst 0, 1), (402, .invokevirtual 765, 3), (405, .aload_n 0, 1), (406, .getfield 8, 3), (409, .iload_n 2, 1), (410, .iconst 0, 1)]
set_option maxRecDepth 20000 in
theorem dn_388_2_1_ok : dn_388_2_1.all (fun q => decide (decode (xm_b n_388) q.1 = .ok (q.2.1, q.2.2))) = true := xa_g_ok (by decide +kernel)
def dn_388_2_2 : List (Nat × Instr × Nat) := [(411, .iadd, 1), (412, .iconst 0, 1), (413, .iastore, 1), (414, .aload_n 0, 1), (415, .getfield 8, 3), (418, .iload_n 2, 1), (419, .bipush 9, 2), (421, .iadd, 1), (422, .iconst (-1), 1), (423, .iastore, 1), (424, .aload_n 0, 1), (425, .iload_n 1, 1), (426, .invokevirtual 768, 3), (429, .return_, 1)]
set_option maxRecDepth 20000 in
theorem dn_388_2_2_ok : dn_388_2_2.all (fun q => decide (decode (xm_b n_388) q.1 = .ok (q.2.1, q.2.2))) = true := xa_g_ok (by decide +kernel)
def te_388_0 : Nat → eE := (e_T 23 (e_T 11 (e_T 5 (e_T 1 (e_T 0 (e_L 0 (0, ei_load 1 0 1, 0, 0)) (e_L 1 (2, e_nof, 268, 1))) (e_T 4 (e_L 4 (0, ei_stor 2 0 5, 0, 0)) (e_L 5 (0, ei_load 0 2 6, 0, 0)))) (e_T 9 (e_T 6 (e_L 6 (0, ei_getf eft elay 12 0 9, 0, 0)) (e_L 9 (0, ei_load 2 0 10, 0, 0))) (e_T 10 (e_L 10 (0, ei_push (0, 0) 11, 0, 0)) (e_L 11 (0, ei_bin eF_add 12, 0, 0))))) (e_T 17 (e_T 13 (e_T 12 (e_L 12 (0, ei_ald elay false 13, 0, 0)) (e_L 13 (0, ei_if1 1 17 16, 0, 0))) (e_T 16 (e_L 16 (1, e_nof, 0, 0)) (e_L 17 (0, ei_load 0 2 18, 0, 0)))) (e_T 21 (e_T 18 (e_L 18 (0, ei_getf eft elay 12 0 21, 0, 0)) (e_L 21 (0, ei_load 2 0 22, 0, 0))) (e_T 22 (e_L 22 (0, ei_push (0, 0) 23, 0, 0)) (e_L 23 (0, ei_bin eF_add 24, 0, 0)))))) (e_T 35 (e_T 29 (e_T 25 (e_T 24 (e_L 24 (0, ei_ald elay false 25, 0, 0)) (e_L 25 (0, ei_push (0, 1) 26, 0, 0))) (e_T 26 (e_L 26 (0, ei_if2 1 33 29, 0, 0)) (e_L 29 (0, ei_push (0, 1) 30, 0, 0)))) (e_T 33 (e_T 30 (e_L 30 (0, ei_goto 34, 0, 0)) (e_L 33 (0, ei_push (0, 0) 34, 0, 0))) (e_T 34 (e_L 34 (0, ei_stor 3 0 35, 0, 0)) (e_L 35 (0, ei_push (0, 1) 36, 0, 0))))) (e_T 41 (e_T 38 (e_T 36 (e_L 36 (0, ei_stor 4 0 38, 0, 0)) (e_L 38 (0, ei_push (0, 0) 39, 0, 0))) (e_T 39 (e_L 39 (0, ei_stor 5 0 41, 0, 0)) (e_L 41 (0, ei_push (0, 0) 42, 0, 0)))) (e_T 44 (e_T 42 (e_L 42 (0, ei_stor 6 0 44, 0, 0)) (e_L 44 (0, ei_load 6 0 46, 0, 0))) (e_T 46 (e_L 46 (0, ei_load 0 2 47, 0, 0)) (e_T 47 (e_L 47 (0, ei_getf eft elay 12 15 50, 0, 0)) (e_L 50 (0, ei_load 1 0 51, 0, 0))))))))
set_option maxRecDepth 20000 in
set_option maxHeartbeats 4000000 in
theorem te_388_0_ok : ∀ pc, e_EOq eft cls elay eI n_388 pc (te_388_0 pc) :=
  (e_Tok2
  (e_Tok2
  (e_Tok2
  (e_Tok2
  (e_Tok2
  (e_Lok (ld_iload_n_1 (x_dk dn_388_0_0_ok 0 rfl)))
  (e_Lok (lk_12_294 ho_388 (x_dk dn_388_0_0_ok 1 rfl))))
  (e_Tok2
  (e_Lok (e_st (I := eI) (er_istore_n (i := 2) (x_dk dn_388_0_0_ok 2 rfl) (by decide +kernel)) nx_stor))
  (e_Lok (ld_aload_n_0 (x_dk dn_388_0_0_ok 3 rfl)))))
  (e_Tok2
  (e_Tok2
  (e_Lok (lk_12_8g ho_388 (x_dk dn_388_0_0_ok 4 rfl)))
  (e_Lok (ld_iload_n_2 (x_dk dn_388_0_0_ok 5 rfl))))
  (e_Tok2
  (e_Lok (ps_iconst_0 (x_dk dn_388_0_0_ok 6 rfl)))
  (e_Lok (sm_iadd (x_dk dn_388_0_0_ok 7 rfl))))))
  (e_Tok2
  (e_Tok2
  (e_Tok2
  (e_Lok (sm_iaload (x_dk dn_388_0_0_ok 8 rfl)))
  (e_Lok (e_st (I := eI) (er_ifne (off := 4) (tg := 17) (x_dk dn_388_0_0_ok 9 rfl) (by decide)) nx_if1)))
  (e_Tok2
  (e_Lok (e_rt (I := eI) (k := 0) ⟨(x_dk dn_388_0_0_ok 10 rfl), rfl⟩))
  (e_Lok (ld_aload_n_0 (x_dk dn_388_0_0_ok 11 rfl)))))
  (e_Tok2
  (e_Tok2
  (e_Lok (lk_12_8g ho_388 (x_dk dn_388_0_0_ok 12 rfl)))
  (e_Lok (ld_iload_n_2 (x_dk dn_388_0_0_ok 13 rfl))))
  (e_Tok2
  (e_Lok (ps_iconst_0 (x_dk dn_388_0_0_ok 14 rfl)))
  (e_Lok (sm_iadd (x_dk dn_388_0_0_ok 15 rfl)))))))
  (e_Tok2
  (e_Tok2
  (e_Tok2
  (e_Tok2
  (e_Lok (sm_iaload (x_dk dn_388_0_0_ok 16 rfl)))
  (e_Lok (ps_iconst_1 (x_dk dn_388_0_0_ok 17 rfl))))
  (e_Tok2
  (e_Lok (e_st (I := eI) (er_icmpne (off := 7) (tg := 33) (x_dk dn_388_0_0_ok 18 rfl) (by decide)) nx_if2))
  (e_Lok (ps_iconst_1 (x_dk dn_388_0_0_ok 19 rfl)))))
  (e_Tok2
  (e_Tok2
  (e_Lok (e_st (I := eI) (er_goto (off := 4) (tg := 34) (x_dk dn_388_0_0_ok 20 rfl) (by decide)) nx_goto))
  (e_Lok (ps_iconst_0 (x_dk dn_388_0_0_ok 21 rfl))))
  (e_Tok2
  (e_Lok (e_st (I := eI) (er_istore_n (i := 3) (x_dk dn_388_0_0_ok 22 rfl) (by decide +kernel)) nx_stor))
  (e_Lok (ps_iconst_1 (x_dk dn_388_0_0_ok 23 rfl))))))
  (e_Tok2
  (e_Tok2
  (e_Tok2
  (e_Lok (e_st (I := eI) (er_istore (i := 4) (x_dk dn_388_0_0_ok 24 rfl) (by decide +kernel)) nx_stor))
  (e_Lok (ps_iconst_0 (x_dk dn_388_0_1_ok 0 rfl))))
  (e_Tok2
  (e_Lok (e_st (I := eI) (er_istore (i := 5) (x_dk dn_388_0_1_ok 1 rfl) (by decide +kernel)) nx_stor))
  (e_Lok (ps_iconst_0 (x_dk dn_388_0_1_ok 2 rfl)))))
  (e_Tok2
  (e_Tok2
  (e_Lok (e_st (I := eI) (er_istore (i := 6) (x_dk dn_388_0_1_ok 3 rfl) (by decide +kernel)) nx_stor))
  (e_Lok (ld_iload_6 (x_dk dn_388_0_1_ok 4 rfl))))
  (e_Tok2
  (e_Lok (ld_aload_n_0 (x_dk dn_388_0_1_ok 5 rfl)))
  (e_Tok2
  (e_Lok (lk_12_43g ho_388 (x_dk dn_388_0_1_ok 6 rfl)))
  (e_Lok (ld_iload_n_1 (x_dk dn_388_0_1_ok 7 rfl)))))))))
def te_388_33 : Nat → eE := (e_T 77 (e_T 63 (e_T 56 (e_T 52 (e_T 51 (e_L 51 (0, ei_ald elay false 52, 0, 0)) (e_L 52 (0, ei_if2 3 305 55, 0, 0))) (e_T 55 (e_L 55 (0, ei_load 0 2 56, 0, 0)) (e_L 56 (0, ei_getf eft elay 12 0 59, 0, 0)))) (e_T 60 (e_T 59 (e_L 59 (0, ei_load 2 0 60, 0, 0)) (e_L 60 (0, ei_push (0, 22) 62, 0, 0))) (e_T 62 (e_L 62 (0, ei_bin eF_add 63, 0, 0)) (e_L 63 (0, ei_load 6 0 65, 0, 0))))) (e_T 69 (e_T 66 (e_T 65 (e_L 65 (0, ei_bin eF_add 66, 0, 0)) (e_L 66 (0, ei_ald elay false 67, 0, 0))) (e_T 67 (e_L 67 (0, ei_stor 7 0 69, 0, 0)) (e_L 69 (0, ei_load 3 0 70, 0, 0)))) (e_T 73 (e_T 70 (e_L 70 (0, ei_if1 0 101 73, 0, 0)) (e_L 73 (0, ei_load 0 2 74, 0, 0))) (e_T 74 (e_L 74 (0, ei_getf eft elay 12 0 77, 0, 0)) (e_L 77 (0, ei_load 2 0 78, 0, 0)))))) (e_T 89 (e_T 83 (e_T 80 (e_T 78 (e_L 78 (0, ei_push (0, 28) 80, 0, 0)) (e_L 80 (0, ei_bin eF_add 81, 0, 0))) (e_T 81 (e_L 81 (0, ei_load 6 0 83, 0, 0)) (e_L 83 (0, ei_bin eF_add 84, 0, 0)))) (e_T 85 (e_T 84 (e_L 84 (0, ei_ald elay false 85, 0, 0)) (e_L 85 (0, ei_load 0 2 86, 0, 0))) (e_T 86 (e_L 86 (0, ei_getf eft elay 12 0 89, 0, 0)) (e_L 89 (0, ei_load 2 0 90, 0, 0))))) (e_T 95 (e_T 92 (e_T 90 (e_L 90 (0, ei_push (0, 16) 92, 0, 0)) (e_L 92 (0, ei_bin eF_add 93, 0, 0))) (e_T 93 (e_L 93 (0, ei_load 6 0 95, 0, 0)) (e_L 95 (0, ei_bin eF_add 96, 0, 0)))) (e_T 97 (e_T 96 (e_L 96 (0, ei_ald elay false 97, 0, 0)) (e_L 97 (0, ei_bin eF_sub 98, 0, 0))) (e_T 98 (e_L 98 (0, ei_goto 102, 0, 0)) (e_T 101 (e_L 101 (0, ei_push (0, 0) 102, 0, 0)) (e_L 102 (0, ei_stor 8 0 104, 0, 0))))))))
set_option maxRecDepth 20000 in
set_option maxHeartbeats 4000000 in
theorem te_388_33_ok : ∀ pc, e_EOq eft cls elay eI n_388 pc (te_388_33 pc) :=
  (e_Tok2
  (e_Tok2
  (e_Tok2
  (e_Tok2
  (e_Tok2
  (e_Lok (sm_iaload (x_dk dn_388_0_1_ok 8 rfl)))
  (e_Lok (e_st (I := eI) (er_icmpge (off := 253) (tg := 305) (x_dk dn_388_0_1_ok 9 rfl) (by decide)) nx_if2)))
  (e_Tok2
  (e_Lok (ld_aload_n_0 (x_dk dn_388_0_1_ok 10 rfl)))
  (e_Lok (lk_12_8g ho_388 (x_dk dn_388_0_1_ok 11 rfl)))))
  (e_Tok2
  (e_Tok2
  (e_Lok (ld_iload_n_2 (x_dk dn_388_0_1_ok 12 rfl)))
  (e_Lok (ps_bipush_22 (x_dk dn_388_0_1_ok 13 rfl))))
  (e_Tok2
  (e_Lok (sm_iadd (x_dk dn_388_0_1_ok 14 rfl)))
  (e_Lok (ld_iload_6 (x_dk dn_388_0_1_ok 15 rfl))))))
  (e_Tok2
  (e_Tok2
  (e_Tok2
  (e_Lok (sm_iadd (x_dk dn_388_0_1_ok 16 rfl)))
  (e_Lok (sm_iaload (x_dk dn_388_0_1_ok 17 rfl))))
  (e_Tok2
  (e_Lok (e_st (I := eI) (er_istore (i := 7) (x_dk dn_388_0_1_ok 18 rfl) (by decide +kernel)) nx_stor))
  (e_Lok (ld_iload_n_3 (x_dk dn_388_0_1_ok 19 rfl)))))
  (e_Tok2
  (e_Tok2
  (e_Lok (e_st (I := eI) (er_ifeq (off := 31) (tg := 101) (x_dk dn_388_0_1_ok 20 rfl) (by decide)) nx_if1))
  (e_Lok (ld_aload_n_0 (x_dk dn_388_0_1_ok 21 rfl))))
  (e_Tok2
  (e_Lok (lk_12_8g ho_388 (x_dk dn_388_0_1_ok 22 rfl)))
  (e_Lok (ld_iload_n_2 (x_dk dn_388_0_1_ok 23 rfl)))))))
  (e_Tok2
  (e_Tok2
  (e_Tok2
  (e_Tok2
  (e_Lok (ps_bipush_28 (x_dk dn_388_0_1_ok 24 rfl)))
  (e_Lok (sm_iadd (x_dk dn_388_0_2_ok 0 rfl))))
  (e_Tok2
  (e_Lok (ld_iload_6 (x_dk dn_388_0_2_ok 1 rfl)))
  (e_Lok (sm_iadd (x_dk dn_388_0_2_ok 2 rfl)))))
  (e_Tok2
  (e_Tok2
  (e_Lok (sm_iaload (x_dk dn_388_0_2_ok 3 rfl)))
  (e_Lok (ld_aload_n_0 (x_dk dn_388_0_2_ok 4 rfl))))
  (e_Tok2
  (e_Lok (lk_12_8g ho_388 (x_dk dn_388_0_2_ok 5 rfl)))
  (e_Lok (ld_iload_n_2 (x_dk dn_388_0_2_ok 6 rfl))))))
  (e_Tok2
  (e_Tok2
  (e_Tok2
  (e_Lok (ps_bipush_16 (x_dk dn_388_0_2_ok 7 rfl)))
  (e_Lok (sm_iadd (x_dk dn_388_0_2_ok 8 rfl))))
  (e_Tok2
  (e_Lok (ld_iload_6 (x_dk dn_388_0_2_ok 9 rfl)))
  (e_Lok (sm_iadd (x_dk dn_388_0_2_ok 10 rfl)))))
  (e_Tok2
  (e_Tok2
  (e_Lok (sm_iaload (x_dk dn_388_0_2_ok 11 rfl)))
  (e_Lok (sm_isub (x_dk dn_388_0_2_ok 12 rfl))))
  (e_Tok2
  (e_Lok (e_st (I := eI) (er_goto (off := 4) (tg := 102) (x_dk dn_388_0_2_ok 13 rfl) (by decide)) nx_goto))
  (e_Tok2
  (e_Lok (ps_iconst_0 (x_dk dn_388_0_2_ok 14 rfl)))
  (e_Lok (e_st (I := eI) (er_istore (i := 8) (x_dk dn_388_0_2_ok 15 rfl) (by decide +kernel)) nx_stor))))))))
def te_388_66 : Nat → eE := (e_T 128 (e_T 116 (e_T 111 (e_T 106 (e_T 104 (e_L 104 (0, ei_load 8 0 106, 0, 0)) (e_L 106 (0, ei_if1 3 146 109, 0, 0))) (e_T 109 (e_L 109 (0, ei_load 8 0 111, 0, 0)) (e_L 111 (0, ei_un (fun x => (0, e32 (-x))) 112, 0, 0)))) (e_T 114 (e_T 112 (e_L 112 (0, ei_load 7 0 114, 0, 0)) (e_L 114 (0, ei_un (fun x => (0, e32 (-x))) 115, 0, 0))) (e_T 115 (e_L 115 (0, ei_load 0 2 116, 0, 0)) (e_L 116 (0, ei_getf eft elay 12 19 119, 0, 0))))) (e_T 123 (e_T 121 (e_T 119 (e_L 119 (0, ei_push (0, 6) 121, 0, 0)) (e_L 121 (0, ei_load 1 0 122, 0, 0))) (e_T 122 (e_L 122 (0, ei_bin eF_mul 123, 0, 0)) (e_L 123 (0, ei_load 6 0 125, 0, 0)))) (e_T 126 (e_T 125 (e_L 125 (0, ei_bin eF_add 126, 0, 0)) (e_L 126 (0, ei_ald elay false 127, 0, 0))) (e_T 127 (e_L 127 (0, ei_load 0 2 128, 0, 0)) (e_L 128 (0, ei_getf eft elay 12 20 131, 0, 0)))))) (e_T 142 (e_T 135 (e_T 133 (e_T 131 (e_L 131 (0, ei_push (0, 6) 133, 0, 0)) (e_L 133 (0, ei_load 1 0 134, 0, 0))) (e_T 134 (e_L 134 (0, ei_bin eF_mul 135, 0, 0)) (e_L 135 (0, ei_load 6 0 137, 0, 0)))) (e_T 138 (e_T 137 (e_L 137 (0, ei_bin eF_add 138, 0, 0)) (e_L 138 (0, ei_ald elay false 139, 0, 0))) (e_T 139 (e_L 139 (2, e_nof, 386, 4)) (e_L 142 (0, ei_un (fun x => (0, e32 (-x))) 143, 0, 0))))) (e_T 150 (e_T 146 (e_T 143 (e_L 143 (0, ei_goto 177, 0, 0)) (e_L 146 (0, ei_load 8 0 148, 0, 0))) (e_T 148 (e_L 148 (0, ei_load 7 0 150, 0, 0)) (e_L 150 (0, ei_load 0 2 151, 0, 0)))) (e_T 154 (e_T 151 (e_L 151 (0, ei_getf eft elay 12 19 154, 0, 0)) (e_L 154 (0, ei_push (0, 6) 156, 0, 0))) (e_T 156 (e_L 156 (0, ei_load 1 0 157, 0, 0)) (e_T 157 (e_L 157 (0, ei_bin eF_mul 158, 0, 0)) (e_L 158 (0, ei_load 6 0 160, 0, 0))))))))
set_option maxRecDepth 20000 in
set_option maxHeartbeats 4000000 in
theorem te_388_66_ok : ∀ pc, e_EOq eft cls elay eI n_388 pc (te_388_66 pc) :=
  (e_Tok2
  (e_Tok2
  (e_Tok2
  (e_Tok2
  (e_Tok2
  (e_Lok (ld_iload_8 (x_dk dn_388_0_2_ok 16 rfl)))
  (e_Lok (e_st (I := eI) (er_ifge (off := 40) (tg := 146) (x_dk dn_388_0_2_ok 17 rfl) (by decide)) nx_if1)))
  (e_Tok2
  (e_Lok (ld_iload_8 (x_dk dn_388_0_2_ok 18 rfl)))
  (e_Lok (e_st (I := eI) (er_ineg (x_dk dn_388_0_2_ok 19 rfl)) (nx_un (fun _ => rfl))))))
  (e_Tok2
  (e_Tok2
  (e_Lok (ld_iload_7 (x_dk dn_388_0_2_ok 20 rfl)))
  (e_Lok (e_st (I := eI) (er_ineg (x_dk dn_388_0_2_ok 21 rfl)) (nx_un (fun _ => rfl)))))
  (e_Tok2
  (e_Lok (ld_aload_n_0 (x_dk dn_388_0_2_ok 22 rfl)))
  (e_Lok (lk_12_55g ho_388 (x_dk dn_388_0_2_ok 23 rfl))))))
  (e_Tok2
  (e_Tok2
  (e_Tok2
  (e_Lok (ps_bipush_6 (x_dk dn_388_0_2_ok 24 rfl)))
  (e_Lok (ld_iload_n_1 (x_dk dn_388_0_3_ok 0 rfl))))
  (e_Tok2
  (e_Lok (sm_imul (x_dk dn_388_0_3_ok 1 rfl)))
  (e_Lok (ld_iload_6 (x_dk dn_388_0_3_ok 2 rfl)))))
  (e_Tok2
  (e_Tok2
  (e_Lok (sm_iadd (x_dk dn_388_0_3_ok 3 rfl)))
  (e_Lok (sm_iaload (x_dk dn_388_0_3_ok 4 rfl))))
  (e_Tok2
  (e_Lok (ld_aload_n_0 (x_dk dn_388_0_3_ok 5 rfl)))
  (e_Lok (lk_12_58g ho_388 (x_dk dn_388_0_3_ok 6 rfl)))))))
  (e_Tok2
  (e_Tok2
  (e_Tok2
  (e_Tok2
  (e_Lok (ps_bipush_6 (x_dk dn_388_0_3_ok 7 rfl)))
  (e_Lok (ld_iload_n_1 (x_dk dn_388_0_3_ok 8 rfl))))
  (e_Tok2
  (e_Lok (sm_imul (x_dk dn_388_0_3_ok 9 rfl)))
  (e_Lok (ld_iload_6 (x_dk dn_388_0_3_ok 10 rfl)))))
  (e_Tok2
  (e_Tok2
  (e_Lok (sm_iadd (x_dk dn_388_0_3_ok 11 rfl)))
  (e_Lok (sm_iaload (x_dk dn_388_0_3_ok 12 rfl))))
  (e_Tok2
  (e_Lok (lk_12_755 ho_388 (x_dk dn_388_0_3_ok 13 rfl)))
  (e_Lok (e_st (I := eI) (er_ineg (x_dk dn_388_0_3_ok 14 rfl)) (nx_un (fun _ => rfl)))))))
  (e_Tok2
  (e_Tok2
  (e_Tok2
  (e_Lok (e_st (I := eI) (er_goto (off := 34) (tg := 177) (x_dk dn_388_0_3_ok 15 rfl) (by decide)) nx_goto))
  (e_Lok (ld_iload_8 (x_dk dn_388_0_3_ok 16 rfl))))
  (e_Tok2
  (e_Lok (ld_iload_7 (x_dk dn_388_0_3_ok 17 rfl)))
  (e_Lok (ld_aload_n_0 (x_dk dn_388_0_3_ok 18 rfl)))))
  (e_Tok2
  (e_Tok2
  (e_Lok (lk_12_55g ho_388 (x_dk dn_388_0_3_ok 19 rfl)))
  (e_Lok (ps_bipush_6 (x_dk dn_388_0_3_ok 20 rfl))))
  (e_Tok2
  (e_Lok (ld_iload_n_1 (x_dk dn_388_0_3_ok 21 rfl)))
  (e_Tok2
  (e_Lok (sm_imul (x_dk dn_388_0_3_ok 22 rfl)))
  (e_Lok (ld_iload_6 (x_dk dn_388_0_3_ok 23 rfl)))))))))
def te_388_99 : Nat → eE := (e_T 185 (e_T 170 (e_T 163 (e_T 161 (e_T 160 (e_L 160 (0, ei_bin eF_add 161, 0, 0)) (e_L 161 (0, ei_ald elay false 162, 0, 0))) (e_T 162 (e_L 162 (0, ei_load 0 2 163, 0, 0)) (e_L 163 (0, ei_getf eft elay 12 20 166, 0, 0)))) (e_T 168 (e_T 166 (e_L 166 (0, ei_push (0, 6) 168, 0, 0)) (e_L 168 (0, ei_load 1 0 169, 0, 0))) (e_T 169 (e_L 169 (0, ei_bin eF_mul 170, 0, 0)) (e_L 170 (0, ei_load 6 0 172, 0, 0))))) (e_T 177 (e_T 173 (e_T 172 (e_L 172 (0, ei_bin eF_add 173, 0, 0)) (e_L 173 (0, ei_ald elay false 174, 0, 0))) (e_T 174 (e_L 174 (2, e_nof, 386, 4)) (e_L 177 (0, ei_stor 9 0 179, 0, 0)))) (e_T 180 (e_T 179 (e_L 179 (0, ei_load 3 0 180, 0, 0)) (e_L 180 (0, ei_if1 0 188 183, 0, 0))) (e_T 183 (e_L 183 (0, ei_load 9 0 185, 0, 0)) (e_L 185 (0, ei_goto 205, 0, 0)))))) (e_T 200 (e_T 194 (e_T 190 (e_T 188 (e_L 188 (0, ei_load 7 0 190, 0, 0)) (e_L 190 (0, ei_load 0 2 191, 0, 0))) (e_T 191 (e_L 191 (0, ei_getf eft elay 12 20 194, 0, 0)) (e_L 194 (0, ei_push (0, 6) 196, 0, 0)))) (e_T 197 (e_T 196 (e_L 196 (0, ei_load 1 0 197, 0, 0)) (e_L 197 (0, ei_bin eF_mul 198, 0, 0))) (e_T 198 (e_L 198 (0, ei_load 6 0 200, 0, 0)) (e_L 200 (0, ei_bin eF_add 201, 0, 0))))) (e_T 207 (e_T 202 (e_T 201 (e_L 201 (0, ei_ald elay false 202, 0, 0)) (e_L 202 (2, e_nof, 387, 2))) (e_T 205 (e_L 205 (0, ei_stor 9 0 207, 0, 0)) (e_L 207 (0, ei_load 0 2 208, 0, 0)))) (e_T 211 (e_T 208 (e_L 208 (0, ei_getf eft elay 12 0 211, 0, 0)) (e_L 211 (0, ei_load 2 0 212, 0, 0))) (e_T 212 (e_L 212 (0, ei_push (0, 22) 214, 0, 0)) (e_T 214 (e_L 214 (0, ei_bin eF_add 215, 0, 0)) (e_L 215 (0, ei_load 6 0 217, 0, 0))))))))
set_option maxRecDepth 20000 in
set_option maxHeartbeats 4000000 in
theorem te_388_99_ok : ∀ pc, e_EOq eft cls elay eI n_388 pc (te_388_99 pc) :=
  (e_Tok2
  (e_Tok2
  (e_Tok2
  (e_Tok2
  (e_Tok2
  (e_Lok (sm_iadd (x_dk dn_388_0_3_ok 24 rfl)))
  (e_Lok (sm_iaload (x_dk dn_388_1_0_ok 0 rfl))))
  (e_Tok2
  (e_Lok (ld_aload_n_0 (x_dk dn_388_1_0_ok 1 rfl)))
  (e_Lok (lk_12_58g ho_388 (x_dk dn_388_1_0_ok 2 rfl)))))
  (e_Tok2
  (e_Tok2
  (e_Lok (ps_bipush_6 (x_dk dn_388_1_0_ok 3 rfl)))
  (e_Lok (ld_iload_n_1 (x_dk dn_388_1_0_ok 4 rfl))))
  (e_Tok2
  (e_Lok (sm_imul (x_dk dn_388_1_0_ok 5 rfl)))
  (e_Lok (ld_iload_6 (x_dk dn_388_1_0_ok 6 rfl))))))
  (e_Tok2
  (e_Tok2
  (e_Tok2
  (e_Lok (sm_iadd (x_dk dn_388_1_0_ok 7 rfl)))
  (e_Lok (sm_iaload (x_dk dn_388_1_0_ok 8 rfl))))
  (e_Tok2
  (e_Lok (lk_12_755 ho_388 (x_dk dn_388_1_0_ok 9 rfl)))
  (e_Lok (e_st (I := eI) (er_istore (i := 9) (x_dk dn_388_1_0_ok 10 rfl) (by decide +kernel)) nx_stor))))
  (e_Tok2
  (e_Tok2
  (e_Lok (ld_iload_n_3 (x_dk dn_388_1_0_ok 11 rfl)))
  (e_Lok (e_st (I := eI) (er_ifeq (off := 8) (tg := 188) (x_dk dn_388_1_0_ok 12 rfl) (by decide)) nx_if1)))
  (e_Tok2
  (e_Lok (ld_iload_9 (x_dk dn_388_1_0_ok 13 rfl)))
  (e_Lok (e_st (I := eI) (er_goto (off := 20) (tg := 205) (x_dk dn_388_1_0_ok 14 rfl) (by decide)) nx_goto))))))
  (e_Tok2
  (e_Tok2
  (e_Tok2
  (e_Tok2
  (e_Lok (ld_iload_7 (x_dk dn_388_1_0_ok 15 rfl)))
  (e_Lok (ld_aload_n_0 (x_dk dn_388_1_0_ok 16 rfl))))
  (e_Tok2
  (e_Lok (lk_12_58g ho_388 (x_dk dn_388_1_0_ok 17 rfl)))
  (e_Lok (ps_bipush_6 (x_dk dn_388_1_0_ok 18 rfl)))))
  (e_Tok2
  (e_Tok2
  (e_Lok (ld_iload_n_1 (x_dk dn_388_1_0_ok 19 rfl)))
  (e_Lok (sm_imul (x_dk dn_388_1_0_ok 20 rfl))))
  (e_Tok2
  (e_Lok (ld_iload_6 (x_dk dn_388_1_0_ok 21 rfl)))
  (e_Lok (sm_iadd (x_dk dn_388_1_0_ok 22 rfl))))))
  (e_Tok2
  (e_Tok2
  (e_Tok2
  (e_Lok (sm_iaload (x_dk dn_388_1_0_ok 23 rfl)))
  (e_Lok (lk_12_759 ho_388 (x_dk dn_388_1_0_ok 24 rfl))))
  (e_Tok2
  (e_Lok (e_st (I := eI) (er_istore (i := 9) (x_dk dn_388_1_1_ok 0 rfl) (by decide +kernel)) nx_stor))
  (e_Lok (ld_aload_n_0 (x_dk dn_388_1_1_ok 1 rfl)))))
  (e_Tok2
  (e_Tok2
  (e_Lok (lk_12_8g ho_388 (x_dk dn_388_1_1_ok 2 rfl)))
  (e_Lok (ld_iload_n_2 (x_dk dn_388_1_1_ok 3 rfl))))
  (e_Tok2
  (e_Lok (ps_bipush_22 (x_dk dn_388_1_1_ok 4 rfl)))
  (e_Tok2
  (e_Lok (sm_iadd (x_dk dn_388_1_1_ok 5 rfl)))
  (e_Lok (ld_iload_6 (x_dk dn_388_1_1_ok 6 rfl)))))))))
def te_388_132 : Nat → eE := (e_T 238 (e_T 228 (e_T 221 (e_T 218 (e_T 217 (e_L 217 (0, ei_bin eF_add 218, 0, 0)) (e_L 218 (0, ei_load 9 0 220, 0, 0))) (e_T 220 (e_L 220 (0, ei_ast elay false 221, 0, 0)) (e_L 221 (0, ei_load 0 2 222, 0, 0)))) (e_T 225 (e_T 222 (e_L 222 (0, ei_getf eft elay 12 0 225, 0, 0)) (e_L 225 (0, ei_load 2 0 226, 0, 0))) (e_T 226 (e_L 226 (0, ei_push (0, 16) 228, 0, 0)) (e_L 228 (0, ei_bin eF_add 229, 0, 0))))) (e_T 233 (e_T 231 (e_T 229 (e_L 229 (0, ei_load 6 0 231, 0, 0)) (e_L 231 (0, ei_bin eF_add 232, 0, 0))) (e_T 232 (e_L 232 (0, ei_stk ef_dup2 233, 0, 0)) (e_L 233 (0, ei_ald elay false 234, 0, 0)))) (e_T 236 (e_T 234 (e_L 234 (0, ei_load 9 0 236, 0, 0)) (e_L 236 (0, ei_bin eF_add 237, 0, 0))) (e_T 237 (e_L 237 (0, ei_ast elay false 238, 0, 0)) (e_L 238 (0, ei_load 5 0 240, 0, 0)))))) (e_T 253 (e_T 246 (e_T 242 (e_T 240 (e_L 240 (0, ei_load 9 0 242, 0, 0)) (e_L 242 (0, ei_if1 0 249 245, 0, 0))) (e_T 245 (e_L 245 (0, ei_push (0, 1) 246, 0, 0)) (e_L 246 (0, ei_goto 250, 0, 0)))) (e_T 250 (e_T 249 (e_L 249 (0, ei_push (0, 0) 250, 0, 0)) (e_L 250 (0, ei_bin (eB (fun x y => x ||| y)) 251, 0, 0))) (e_T 251 (e_L 251 (0, ei_stor 5 0 253, 0, 0)) (e_L 253 (0, ei_load 4 0 255, 0, 0))))) (e_T 261 (e_T 257 (e_T 255 (e_L 255 (0, ei_load 9 0 257, 0, 0)) (e_L 257 (0, ei_if1 1 295 260, 0, 0))) (e_T 260 (e_L 260 (0, ei_load 3 0 261, 0, 0)) (e_L 261 (0, ei_if1 0 291 264, 0, 0)))) (e_T 265 (e_T 264 (e_L 264 (0, ei_load 0 2 265, 0, 0)) (e_L 265 (0, ei_getf eft elay 12 0 268, 0, 0))) (e_T 268 (e_L 268 (0, ei_load 2 0 269, 0, 0)) (e_T 269 (e_L 269 (0, ei_push (0, 28) 271, 0, 0)) (e_L 271 (0, ei_bin eF_add 272, 0, 0))))))))
set_option maxRecDepth 20000 in
set_option maxHeartbeats 4000000 in
theorem te_388_132_ok : ∀ pc, e_EOq eft cls elay eI n_388 pc (te_388_132 pc) :=
  (e_Tok2
  (e_Tok2
  (e_Tok2
  (e_Tok2
  (e_Tok2
  (e_Lok (sm_iadd (x_dk dn_388_1_1_ok 7 rfl)))
  (e_Lok (ld_iload_9 (x_dk dn_388_1_1_ok 8 rfl))))
  (e_Tok2
  (e_Lok (sm_iastore (x_dk dn_388_1_1_ok 9 rfl)))
  (e_Lok (ld_aload_n_0 (x_dk dn_388_1_1_ok 10 rfl)))))
  (e_Tok2
  (e_Tok2
  (e_Lok (lk_12_8g ho_388 (x_dk dn_388_1_1_ok 11 rfl)))
  (e_Lok (ld_iload_n_2 (x_dk dn_388_1_1_ok 12 rfl))))
  (e_Tok2
  (e_Lok (ps_bipush_16 (x_dk dn_388_1_1_ok 13 rfl)))
  (e_Lok (sm_iadd (x_dk dn_388_1_1_ok 14 rfl))))))
  (e_Tok2
  (e_Tok2
  (e_Tok2
  (e_Lok (ld_iload_6 (x_dk dn_388_1_1_ok 15 rfl)))
  (e_Lok (sm_iadd (x_dk dn_388_1_1_ok 16 rfl))))
  (e_Tok2
  (e_Lok (e_st (I := eI) (er_dup2 (x_dk dn_388_1_1_ok 17 rfl)) (nx_stk bf_dup2)))
  (e_Lok (sm_iaload (x_dk dn_388_1_1_ok 18 rfl)))))
  (e_Tok2
  (e_Tok2
  (e_Lok (ld_iload_9 (x_dk dn_388_1_1_ok 19 rfl)))
  (e_Lok (sm_iadd (x_dk dn_388_1_1_ok 20 rfl))))
  (e_Tok2
  (e_Lok (sm_iastore (x_dk dn_388_1_1_ok 21 rfl)))
  (e_Lok (ld_iload_5 (x_dk dn_388_1_1_ok 22 rfl)))))))
  (e_Tok2
  (e_Tok2
  (e_Tok2
  (e_Tok2
  (e_Lok (ld_iload_9 (x_dk dn_388_1_1_ok 23 rfl)))
  (e_Lok (e_st (I := eI) (er_ifeq (off := 7) (tg := 249) (x_dk dn_388_1_1_ok 24 rfl) (by decide)) nx_if1)))
  (e_Tok2
  (e_Lok (ps_iconst_1 (x_dk dn_388_1_2_ok 0 rfl)))
  (e_Lok (e_st (I := eI) (er_goto (off := 4) (tg := 250) (x_dk dn_388_1_2_ok 1 rfl) (by decide)) nx_goto))))
  (e_Tok2
  (e_Tok2
  (e_Lok (ps_iconst_0 (x_dk dn_388_1_2_ok 2 rfl)))
  (e_Lok (e_st (I := eI) (er_ior (x_dk dn_388_1_2_ok 3 rfl)) nx_bin)))
  (e_Tok2
  (e_Lok (e_st (I := eI) (er_istore (i := 5) (x_dk dn_388_1_2_ok 4 rfl) (by decide +kernel)) nx_stor))
  (e_Lok (ld_iload_4 (x_dk dn_388_1_2_ok 5 rfl))))))
  (e_Tok2
  (e_Tok2
  (e_Tok2
  (e_Lok (ld_iload_9 (x_dk dn_388_1_2_ok 6 rfl)))
  (e_Lok (e_st (I := eI) (er_ifne (off := 38) (tg := 295) (x_dk dn_388_1_2_ok 7 rfl) (by decide)) nx_if1)))
  (e_Tok2
  (e_Lok (ld_iload_n_3 (x_dk dn_388_1_2_ok 8 rfl)))
  (e_Lok (e_st (I := eI) (er_ifeq (off := 30) (tg := 291) (x_dk dn_388_1_2_ok 9 rfl) (by decide)) nx_if1))))
  (e_Tok2
  (e_Tok2
  (e_Lok (ld_aload_n_0 (x_dk dn_388_1_2_ok 10 rfl)))
  (e_Lok (lk_12_8g ho_388 (x_dk dn_388_1_2_ok 11 rfl))))
  (e_Tok2
  (e_Lok (ld_iload_n_2 (x_dk dn_388_1_2_ok 12 rfl)))
  (e_Tok2
  (e_Lok (ps_bipush_28 (x_dk dn_388_1_2_ok 13 rfl)))
  (e_Lok (sm_iadd (x_dk dn_388_1_2_ok 14 rfl)))))))))
def te_388_165 : Nat → eE := (e_T 296 (e_T 283 (e_T 276 (e_T 274 (e_T 272 (e_L 272 (0, ei_load 6 0 274, 0, 0)) (e_L 274 (0, ei_bin eF_add 275, 0, 0))) (e_T 275 (e_L 275 (0, ei_ald elay false 276, 0, 0)) (e_L 276 (0, ei_load 0 2 277, 0, 0)))) (e_T 280 (e_T 277 (e_L 277 (0, ei_getf eft elay 12 0 280, 0, 0)) (e_L 280 (0, ei_load 2 0 281, 0, 0))) (e_T 281 (e_L 281 (0, ei_push (0, 16) 283, 0, 0)) (e_L 283 (0, ei_bin eF_add 284, 0, 0))))) (e_T 288 (e_T 286 (e_T 284 (e_L 284 (0, ei_load 6 0 286, 0, 0)) (e_L 286 (0, ei_bin eF_add 287, 0, 0))) (e_T 287 (e_L 287 (0, ei_ald elay false 288, 0, 0)) (e_L 288 (0, ei_if2 1 295 291, 0, 0)))) (e_T 292 (e_T 291 (e_L 291 (0, ei_push (0, 1) 292, 0, 0)) (e_L 292 (0, ei_goto 296, 0, 0))) (e_T 295 (e_L 295 (0, ei_push (0, 0) 296, 0, 0)) (e_L 296 (0, ei_bin (eB (fun x y => x &&& y)) 297, 0, 0)))))) (e_T 312 (e_T 305 (e_T 299 (e_T 297 (e_L 297 (0, ei_stor 4 0 299, 0, 0)) (e_L 299 (0, ei_inc 6 1 302, 0, 0))) (e_T 302 (e_L 302 (0, ei_goto 44, 0, 0)) (e_L 305 (0, ei_load 5 0 307, 0, 0)))) (e_T 310 (e_T 307 (e_L 307 (0, ei_if1 0 315 310, 0, 0)) (e_L 310 (0, ei_load 0 2 311, 0, 0))) (e_T 311 (e_L 311 (0, ei_load 1 0 312, 0, 0)) (e_L 312 (2, e_nof, 390, 2))))) (e_T 320 (e_T 316 (e_T 315 (e_L 315 (0, ei_load 3 0 316, 0, 0)) (e_L 316 (0, ei_if1 1 338 319, 0, 0))) (e_T 319 (e_L 319 (0, ei_load 0 2 320, 0, 0)) (e_L 320 (0, ei_getf eft elay 12 0 323, 0, 0)))) (e_T 324 (e_T 323 (e_L 323 (0, ei_load 2 0 324, 0, 0)) (e_L 324 (0, ei_push (0, 0) 325, 0, 0))) (e_T 325 (e_L 325 (0, ei_bin eF_add 326, 0, 0)) (e_T 326 (e_L 326 (0, ei_load 4 0 328, 0, 0)) (e_L 328 (0, ei_if1 0 335 331, 0, 0))))))))
set_option maxRecDepth 20000 in
set_option maxHeartbeats 4000000 in
theorem te_388_165_ok : ∀ pc, e_EOq eft cls elay eI n_388 pc (te_388_165 pc) :=
  (e_Tok2
  (e_Tok2
  (e_Tok2
  (e_Tok2
  (e_Tok2
  (e_Lok (ld_iload_6 (x_dk dn_388_1_2_ok 15 rfl)))
  (e_Lok (sm_iadd (x_dk dn_388_1_2_ok 16 rfl))))
  (e_Tok2
  (e_Lok (sm_iaload (x_dk dn_388_1_2_ok 17 rfl)))
  (e_Lok (ld_aload_n_0 (x_dk dn_388_1_2_ok 18 rfl)))))
  (e_Tok2
  (e_Tok2
  (e_Lok (lk_12_8g ho_388 (x_dk dn_388_1_2_ok 19 rfl)))
  (e_Lok (ld_iload_n_2 (x_dk dn_388_1_2_ok 20 rfl))))
  (e_Tok2
  (e_Lok (ps_bipush_16 (x_dk dn_388_1_2_ok 21 rfl)))
  (e_Lok (sm_iadd (x_dk dn_388_1_2_ok 22 rfl))))))
  (e_Tok2
  (e_Tok2
  (e_Tok2
  (e_Lok (ld_iload_6 (x_dk dn_388_1_2_ok 23 rfl)))
  (e_Lok (sm_iadd (x_dk dn_388_1_2_ok 24 rfl))))
  (e_Tok2
  (e_Lok (sm_iaload (x_dk dn_388_1_3_ok 0 rfl)))
  (e_Lok (e_st (I := eI) (er_icmpne (off := 7) (tg := 295) (x_dk dn_388_1_3_ok 1 rfl) (by decide)) nx_if2))))
  (e_Tok2
  (e_Tok2
  (e_Lok (ps_iconst_1 (x_dk dn_388_1_3_ok 2 rfl)))
  (e_Lok (e_st (I := eI) (er_goto (off := 4) (tg := 296) (x_dk dn_388_1_3_ok 3 rfl) (by decide)) nx_goto)))
  (e_Tok2
  (e_Lok (ps_iconst_0 (x_dk dn_388_1_3_ok 4 rfl)))
  (e_Lok (e_st (I := eI) (er_iand (x_dk dn_388_1_3_ok 5 rfl)) nx_bin))))))
  (e_Tok2
  (e_Tok2
  (e_Tok2
  (e_Tok2
  (e_Lok (e_st (I := eI) (er_istore (i := 4) (x_dk dn_388_1_3_ok 6 rfl) (by decide +kernel)) nx_stor))
  (e_Lok (e_st (I := eI) (er_iinc (i := 6) (n := 1) (x_dk dn_388_1_3_ok 7 rfl) (by decide +kernel) (by decide)) nx_inc)))
  (e_Tok2
  (e_Lok (e_st (I := eI) (er_goto (off := (-258)) (tg := 44) (x_dk dn_388_1_3_ok 8 rfl) (by decide)) nx_goto))
  (e_Lok (ld_iload_5 (x_dk dn_388_1_3_ok 9 rfl)))))
  (e_Tok2
  (e_Tok2
  (e_Lok (e_st (I := eI) (er_ifeq (off := 8) (tg := 315) (x_dk dn_388_1_3_ok 10 rfl) (by decide)) nx_if1))
  (e_Lok (ld_aload_n_0 (x_dk dn_388_1_3_ok 11 rfl))))
  (e_Tok2
  (e_Lok (ld_iload_n_1 (x_dk dn_388_1_3_ok 12 rfl)))
  (e_Lok (lk_12_762 ho_388 (x_dk dn_388_1_3_ok 13 rfl))))))
  (e_Tok2
  (e_Tok2
  (e_Tok2
  (e_Lok (ld_iload_n_3 (x_dk dn_388_1_3_ok 14 rfl)))
  (e_Lok (e_st (I := eI) (er_ifne (off := 22) (tg := 338) (x_dk dn_388_1_3_ok 15 rfl) (by decide)) nx_if1)))
  (e_Tok2
  (e_Lok (ld_aload_n_0 (x_dk dn_388_1_3_ok 16 rfl)))
  (e_Lok (lk_12_8g ho_388 (x_dk dn_388_1_3_ok 17 rfl)))))
  (e_Tok2
  (e_Tok2
  (e_Lok (ld_iload_n_2 (x_dk dn_388_1_3_ok 18 rfl)))
  (e_Lok (ps_iconst_0 (x_dk dn_388_1_3_ok 19 rfl))))
  (e_Tok2
  (e_Lok (sm_iadd (x_dk dn_388_1_3_ok 20 rfl)))
  (e_Tok2
  (e_Lok (ld_iload_4 (x_dk dn_388_1_3_ok 21 rfl)))
  (e_Lok (e_st (I := eI) (er_ifeq (off := 7) (tg := 335) (x_dk dn_388_1_3_ok 22 rfl) (by decide)) nx_if1))))))))
def te_388_198 : Nat → eE := (e_T 351 (e_T 342 (e_T 336 (e_T 332 (e_T 331 (e_L 331 (0, ei_push (0, 0) 332, 0, 0)) (e_L 332 (0, ei_goto 336, 0, 0))) (e_T 335 (e_L 335 (0, ei_push (0, 2) 336, 0, 0)) (e_L 336 (0, ei_ast elay false 337, 0, 0)))) (e_T 338 (e_T 337 (e_L 337 (1, e_nof, 0, 0)) (e_L 338 (0, ei_load 0 2 339, 0, 0))) (e_T 339 (e_L 339 (0, ei_getf eft elay 12 0 342, 0, 0)) (e_L 342 (0, ei_load 2 0 343, 0, 0))))) (e_T 347 (e_T 345 (e_T 343 (e_L 343 (0, ei_push (0, 8) 345, 0, 0)) (e_L 345 (0, ei_bin eF_add 346, 0, 0))) (e_T 346 (e_L 346 (0, ei_stk ef_dup2 347, 0, 0)) (e_L 347 (0, ei_ald elay false 348, 0, 0)))) (e_T 349 (e_T 348 (e_L 348 (0, ei_push (0, 1) 349, 0, 0)) (e_L 349 (0, ei_bin eF_add 350, 0, 0))) (e_T 350 (e_L 350 (0, ei_ast elay false 351, 0, 0)) (e_L 351 (0, ei_load 4 0 353, 0, 0)))))) (e_T 365 (e_T 359 (e_T 356 (e_T 353 (e_L 353 (0, ei_if1 0 429 356, 0, 0)) (e_L 356 (0, ei_load 0 2 357, 0, 0))) (e_T 357 (e_L 357 (0, ei_push (0, 8) 359, 0, 0)) (e_L 359 (0, ei_load 1 0 360, 0, 0)))) (e_T 361 (e_T 360 (e_L 360 (0, ei_load 0 2 361, 0, 0)) (e_L 361 (0, ei_getf eft elay 12 0 364, 0, 0))) (e_T 364 (e_L 364 (0, ei_load 2 0 365, 0, 0)) (e_L 365 (0, ei_push (0, 8) 367, 0, 0))))) (e_T 372 (e_T 368 (e_T 367 (e_L 367 (0, ei_bin eF_add 368, 0, 0)) (e_L 368 (0, ei_ald elay false 369, 0, 0))) (e_T 369 (e_L 369 (2, e_nof, 319, 4)) (e_L 372 (0, ei_load 0 2 373, 0, 0)))) (e_T 374 (e_T 373 (e_L 373 (0, ei_push (0, 1) 374, 0, 0)) (e_L 374 (0, ei_load 0 2 375, 0, 0))) (e_T 375 (e_L 375 (0, ei_getf eft elay 12 0 378, 0, 0)) (e_T 378 (e_L 378 (0, ei_load 2 0 379, 0, 0)) (e_L 379 (0, ei_push (0, 8) 381, 0, 0))))))))
set_option maxRecDepth 20000 in
set_option maxHeartbeats 4000000 in
theorem te_388_198_ok : ∀ pc, e_EOq eft cls elay eI n_388 pc (te_388_198 pc) :=
  (e_Tok2
  (e_Tok2
  (e_Tok2
  (e_Tok2
  (e_Tok2
  (e_Lok (ps_iconst_0 (x_dk dn_388_1_3_ok 23 rfl)))
  (e_Lok (e_st (I := eI) (er_goto (off := 4) (tg := 336) (x_dk dn_388_1_3_ok 24 rfl) (by decide)) nx_goto)))
  (e_Tok2
  (e_Lok (ps_iconst_2 (x_dk dn_388_2_0_ok 0 rfl)))
  (e_Lok (sm_iastore (x_dk dn_388_2_0_ok 1 rfl)))))
  (e_Tok2
  (e_Tok2
  (e_Lok (e_rt (I := eI) (k := 0) ⟨(x_dk dn_388_2_0_ok 2 rfl), rfl⟩))
  (e_Lok (ld_aload_n_0 (x_dk dn_388_2_0_ok 3 rfl))))
  (e_Tok2
  (e_Lok (lk_12_8g ho_388 (x_dk dn_388_2_0_ok 4 rfl)))
  (e_Lok (ld_iload_n_2 (x_dk dn_388_2_0_ok 5 rfl))))))
  (e_Tok2
  (e_Tok2
  (e_Tok2
  (e_Lok (ps_bipush_8 (x_dk dn_388_2_0_ok 6 rfl)))
  (e_Lok (sm_iadd (x_dk dn_388_2_0_ok 7 rfl))))
  (e_Tok2
  (e_Lok (e_st (I := eI) (er_dup2 (x_dk dn_388_2_0_ok 8 rfl)) (nx_stk bf_dup2)))
  (e_Lok (sm_iaload (x_dk dn_388_2_0_ok 9 rfl)))))
  (e_Tok2
  (e_Tok2
  (e_Lok (ps_iconst_1 (x_dk dn_388_2_0_ok 10 rfl)))
  (e_Lok (sm_iadd (x_dk dn_388_2_0_ok 11 rfl))))
  (e_Tok2
  (e_Lok (sm_iastore (x_dk dn_388_2_0_ok 12 rfl)))
  (e_Lok (ld_iload_4 (x_dk dn_388_2_0_ok 13 rfl)))))))
  (e_Tok2
  (e_Tok2
  (e_Tok2
  (e_Tok2
  (e_Lok (e_st (I := eI) (er_ifeq (off := 76) (tg := 429) (x_dk dn_388_2_0_ok 14 rfl) (by decide)) nx_if1))
  (e_Lok (ld_aload_n_0 (x_dk dn_388_2_0_ok 15 rfl))))
  (e_Tok2
  (e_Lok (ps_bipush_8 (x_dk dn_388_2_0_ok 16 rfl)))
  (e_Lok (ld_iload_n_1 (x_dk dn_388_2_0_ok 17 rfl)))))
  (e_Tok2
  (e_Tok2
  (e_Lok (ld_aload_n_0 (x_dk dn_388_2_0_ok 18 rfl)))
  (e_Lok (lk_12_8g ho_388 (x_dk dn_388_2_0_ok 19 rfl))))
  (e_Tok2
  (e_Lok (ld_iload_n_2 (x_dk dn_388_2_0_ok 20 rfl)))
  (e_Lok (ps_bipush_8 (x_dk dn_388_2_0_ok 21 rfl))))))
  (e_Tok2
  (e_Tok2
  (e_Tok2
  (e_Lok (sm_iadd (x_dk dn_388_2_0_ok 22 rfl)))
  (e_Lok (sm_iaload (x_dk dn_388_2_0_ok 23 rfl))))
  (e_Tok2
  (e_Lok (lk_12_693 ho_388 (x_dk dn_388_2_0_ok 24 rfl)))
  (e_Lok (ld_aload_n_0 (x_dk dn_388_2_1_ok 0 rfl)))))
  (e_Tok2
  (e_Tok2
  (e_Lok (ps_iconst_1 (x_dk dn_388_2_1_ok 1 rfl)))
  (e_Lok (ld_aload_n_0 (x_dk dn_388_2_1_ok 2 rfl))))
  (e_Tok2
  (e_Lok (lk_12_8g ho_388 (x_dk dn_388_2_1_ok 3 rfl)))
  (e_Tok2
  (e_Lok (ld_iload_n_2 (x_dk dn_388_2_1_ok 4 rfl)))
  (e_Lok (ps_bipush_8 (x_dk dn_388_2_1_ok 5 rfl)))))))))
def te_388_231 : Nat → eE := (e_T 405 (e_T 391 (e_T 384 (e_T 382 (e_T 381 (e_L 381 (0, ei_bin eF_add 382, 0, 0)) (e_L 382 (0, ei_ald elay false 383, 0, 0))) (e_T 383 (e_L 383 (0, ei_load 0 2 384, 0, 0)) (e_L 384 (0, ei_getf eft elay 12 0 387, 0, 0)))) (e_T 388 (e_T 387 (e_L 387 (0, ei_load 2 0 388, 0, 0)) (e_L 388 (0, ei_push (0, 11) 390, 0, 0))) (e_T 390 (e_L 390 (0, ei_bin eF_add 391, 0, 0)) (e_L 391 (0, ei_ald elay false 392, 0, 0))))) (e_T 397 (e_T 393 (e_T 392 (e_L 392 (0, ei_push (0, 1) 393, 0, 0)) (e_L 393 (0, ei_bin eF_add 394, 0, 0))) (e_T 394 (e_L 394 (0, ei_if2 0 401 397, 0, 0)) (e_L 397 (0, ei_push (0, 1) 398, 0, 0)))) (e_T 401 (e_T 398 (e_L 398 (0, ei_goto 402, 0, 0)) (e_L 401 (0, ei_push (0, 0) 402, 0, 0))) (e_T 402 (e_L 402 (2, e_nof, 389, 3)) (e_L 405 (0, ei_load 0 2 406, 0, 0)))))) (e_T 415 (e_T 411 (e_T 409 (e_T 406 (e_L 406 (0, ei_getf eft elay 12 0 409, 0, 0)) (e_L 409 (0, ei_load 2 0 410, 0, 0))) (e_T 410 (e_L 410 (0, ei_push (0, 0) 411, 0, 0)) (e_L 411 (0, ei_bin eF_add 412, 0, 0)))) (e_T 413 (e_T 412 (e_L 412 (0, ei_push (0, 0) 413, 0, 0)) (e_L 413 (0, ei_ast elay false 414, 0, 0))) (e_T 414 (e_L 414 (0, ei_load 0 2 415, 0, 0)) (e_L 415 (0, ei_getf eft elay 12 0 418, 0, 0))))) (e_T 422 (e_T 419 (e_T 418 (e_L 418 (0, ei_load 2 0 419, 0, 0)) (e_L 419 (0, ei_push (0, 9) 421, 0, 0))) (e_T 421 (e_L 421 (0, ei_bin eF_add 422, 0, 0)) (e_L 422 (0, ei_push (0, (-1)) 423, 0, 0)))) (e_T 424 (e_T 423 (e_L 423 (0, ei_ast elay false 424, 0, 0)) (e_L 424 (0, ei_load 0 2 425, 0, 0))) (e_T 425 (e_L 425 (0, ei_load 1 0 426, 0, 0)) (e_T 426 (e_L 426 (2, e_nof, 391, 2)) (e_L 429 (1, e_nof, 0, 0))))))))
set_option maxRecDepth 20000 in
set_option maxHeartbeats 4000000 in
theorem te_388_231_ok : ∀ pc, e_EOq eft cls elay eI n_388 pc (te_388_231 pc) :=
  (e_Tok2
  (e_Tok2
  (e_Tok2
  (e_Tok2
  (e_Tok2
  (e_Lok (sm_iadd (x_dk dn_388_2_1_ok 6 rfl)))
  (e_Lok (sm_iaload (x_dk dn_388_2_1_ok 7 rfl))))
  (e_Tok2
  (e_Lok (ld_aload_n_0 (x_dk dn_388_2_1_ok 8 rfl)))
  (e_Lok (lk_12_8g ho_388 (x_dk dn_388_2_1_ok 9 rfl)))))
  (e_Tok2
  (e_Tok2
  (e_Lok (ld_iload_n_2 (x_dk dn_388_2_1_ok 10 rfl)))
  (e_Lok (ps_bipush_11 (x_dk dn_388_2_1_ok 11 rfl))))
  (e_Tok2
  (e_Lok (sm_iadd (x_dk dn_388_2_1_ok 12 rfl)))
  (e_Lok (sm_iaload (x_dk dn_388_2_1_ok 13 rfl))))))
  (e_Tok2
  (e_Tok2
  (e_Tok2
  (e_Lok (ps_iconst_1 (x_dk dn_388_2_1_ok 14 rfl)))
  (e_Lok (sm_iadd (x_dk dn_388_2_1_ok 15 rfl))))
  (e_Tok2
  (e_Lok (e_st (I := eI) (er_icmpeq (off := 7) (tg := 401) (x_dk dn_388_2_1_ok 16 rfl) (by decide)) nx_if2))
  (e_Lok (ps_iconst_1 (x_dk dn_388_2_1_ok 17 rfl)))))
  (e_Tok2
  (e_Tok2
  (e_Lok (e_st (I := eI) (er_goto (off := 4) (tg := 402) (x_dk dn_388_2_1_ok 18 rfl) (by decide)) nx_goto))
  (e_Lok (ps_iconst_0 (x_dk dn_388_2_1_ok 19 rfl))))
  (e_Tok2
  (e_Lok (lk_12_765 ho_388 (x_dk dn_388_2_1_ok 20 rfl)))
  (e_Lok (ld_aload_n_0 (x_dk dn_388_2_1_ok 21 rfl)))))))
  (e_Tok2
  (e_Tok2
  (e_Tok2
  (e_Tok2
  (e_Lok (lk_12_8g ho_388 (x_dk dn_388_2_1_ok 22 rfl)))
  (e_Lok (ld_iload_n_2 (x_dk dn_388_2_1_ok 23 rfl))))
  (e_Tok2
  (e_Lok (ps_iconst_0 (x_dk dn_388_2_1_ok 24 rfl)))
  (e_Lok (sm_iadd (x_dk dn_388_2_2_ok 0 rfl)))))
  (e_Tok2
  (e_Tok2
  (e_Lok (ps_iconst_0 (x_dk dn_388_2_2_ok 1 rfl)))
  (e_Lok (sm_iastore (x_dk dn_388_2_2_ok 2 rfl))))
  (e_Tok2
  (e_Lok (ld_aload_n_0 (x_dk dn_388_2_2_ok 3 rfl)))
  (e_Lok (lk_12_8g ho_388 (x_dk dn_388_2_2_ok 4 rfl))))))
  (e_Tok2
  (e_Tok2
  (e_Tok2
  (e_Lok (ld_iload_n_2 (x_dk dn_388_2_2_ok 5 rfl)))
  (e_Lok (ps_bipush_9 (x_dk dn_388_2_2_ok 6 rfl))))
  (e_Tok2
  (e_Lok (sm_iadd (x_dk dn_388_2_2_ok 7 rfl)))
  (e_Lok (ps_iconst_m1 (x_dk dn_388_2_2_ok 8 rfl)))))
  (e_Tok2
  (e_Tok2
  (e_Lok (sm_iastore (x_dk dn_388_2_2_ok 9 rfl)))
  (e_Lok (ld_aload_n_0 (x_dk dn_388_2_2_ok 10 rfl))))
  (e_Tok2
  (e_Lok (ld_iload_n_1 (x_dk dn_388_2_2_ok 11 rfl)))
  (e_Tok2
  (e_Lok (lk_12_768 ho_388 (x_dk dn_388_2_2_ok 12 rfl)))
  (e_Lok (e_rt (I := eI) (k := 0) ⟨(x_dk dn_388_2_2_ok 13 rfl), rfl⟩))))))))
def te_388 : Nat → eE := (e_T 215 (e_T 102 (e_T 50 te_388_0 te_388_33) (e_T 158 te_388_66 te_388_99)) (e_T 328 (e_T 271 te_388_132 te_388_165) (e_T 379 te_388_198 te_388_231)))
theorem te_388_ok : ∀ pc, e_EOq eft cls elay eI n_388 pc (te_388 pc) := (e_Tok2 ((e_Tok2 ((e_Tok2 (te_388_0_ok) (te_388_33_ok))) ((e_Tok2 (te_388_66_ok) (te_388_99_ok))))) ((e_Tok2 ((e_Tok2 (te_388_132_ok) (te_388_165_ok))) ((e_Tok2 (te_388_198_ok) (te_388_231_ok))))))
theorem ho_389 : (xm_y n_389).cls = "RobotCellHouseModel" := rfl
def dn_389_0_0 : List (Nat × Instr × Nat) := [(0, .aload_n 0, 1), (1, .getfield 24, 3), (4, .iload_n 1, 1), (5, .dup2, 1), (6, .iaload, 1), (7, .iload_n 2, 1), (8, .ifCond .eq 14, 3), (11, .aload_n 0, 1), (12, .getfield 771, 3), (15, .ifCond .ne 7, 3), (18, .iconst 1, 1), (19, .goto 4, 3), (22, .iconst 0, 1), (23, .iadd, 1), (24, .iastore, 1), (25, .return_, 1)]
set_option maxRecDepth 20000 in
theorem dn_389_0_0_ok : dn_389_0_0.all (fun q => decide (decode (xm_b n_389) q.1 = .ok (q.2.1, q.2.2))) = true := xa_g_ok (by decide +kernel)
def te_389_0 : Nat → eE := (e_T 11 (e_T 5 (e_T 1 (e_T 0 (e_L 0 (0, ei_load 0 2 1, 0, 0)) (e_L 1 (0, ei_getf eft elay 12 7 4, 0, 0))) (e_T 4 (e_L 4 (0, ei_load 1 0 5, 0, 0)) (e_L 5 (0, ei_stk ef_dup2 6, 0, 0)))) (e_T 7 (e_T 6 (e_L 6 (0, ei_ald elay false 7, 0, 0)) (e_L 7 (0, ei_load 2 0 8, 0, 0))) (e_T 8 (e_L 8 (0, ei_if1 0 22 11, 0, 0)) (e_L 11 (0, ei_load 0 2 12, 0, 0))))) (e_T 19 (e_T 15 (e_T 12 (e_L 12 (0, ei_getf eft elay 12 6 15, 0, 0)) (e_L 15 (0, ei_if1 1 22 18, 0, 0))) (e_T 18 (e_L 18 (0, ei_push (0, 1) 19, 0, 0)) (e_L 19 (0, ei_goto 23, 0, 0)))) (e_T 23 (e_T 22 (e_L 22 (0, ei_push (0, 0) 23, 0, 0)) (e_L 23 (0, ei_bin eF_add 24, 0, 0))) (e_T 24 (e_L 24 (0, ei_ast elay false 25, 0, 0)) (e_L 25 (1, e_nof, 0, 0))))))
set_option maxRecDepth 20000 in
set_option maxHeartbeats 4000000 in
theorem te_389_0_ok : ∀ pc, e_EOq eft cls elay eI n_389 pc (te_389_0 pc) :=
  (e_Tok2
  (e_Tok2
  (e_Tok2
  (e_Tok2
  (e_Lok (ld_aload_n_0 (x_dk dn_389_0_0_ok 0 rfl)))
  (e_Lok (lk_12_24g ho_389 (x_dk dn_389_0_0_ok 1 rfl))))
  (e_Tok2
  (e_Lok (ld_iload_n_1 (x_dk dn_389_0_0_ok 2 rfl)))
  (e_Lok (e_st (I := eI) (er_dup2 (x_dk dn_389_0_0_ok 3 rfl)) (nx_stk bf_dup2)))))
  (e_Tok2
  (e_Tok2
  (e_Lok (sm_iaload (x_dk dn_389_0_0_ok 4 rfl)))
  (e_Lok (ld_iload_n_2 (x_dk dn_389_0_0_ok 5 rfl))))
  (e_Tok2
  (e_Lok (e_st (I := eI) (er_ifeq (off := 14) (tg := 22) (x_dk dn_389_0_0_ok 6 rfl) (by decide)) nx_if1))
  (e_Lok (ld_aload_n_0 (x_dk dn_389_0_0_ok 7 rfl))))))
  (e_Tok2
  (e_Tok2
  (e_Tok2
  (e_Lok (lk_12_771g ho_389 (x_dk dn_389_0_0_ok 8 rfl)))
  (e_Lok (e_st (I := eI) (er_ifne (off := 7) (tg := 22) (x_dk dn_389_0_0_ok 9 rfl) (by decide)) nx_if1)))
  (e_Tok2
  (e_Lok (ps_iconst_1 (x_dk dn_389_0_0_ok 10 rfl)))
  (e_Lok (e_st (I := eI) (er_goto (off := 4) (tg := 23) (x_dk dn_389_0_0_ok 11 rfl) (by decide)) nx_goto))))
  (e_Tok2
  (e_Tok2
  (e_Lok (ps_iconst_0 (x_dk dn_389_0_0_ok 12 rfl)))
  (e_Lok (sm_iadd (x_dk dn_389_0_0_ok 13 rfl))))
  (e_Tok2
  (e_Lok (sm_iastore (x_dk dn_389_0_0_ok 14 rfl)))
  (e_Lok (e_rt (I := eI) (k := 0) ⟨(x_dk dn_389_0_0_ok 15 rfl), rfl⟩))))))
def te_389 : Nat → eE := te_389_0
theorem te_389_ok : ∀ pc, e_EOq eft cls elay eI n_389 pc (te_389 pc) := te_389_0_ok
end
end
-- part 41bf
section
noncomputable section
theorem ho_390 : (xm_y n_390).cls = "RobotCellHouseModel" := rfl
def dn_390_0_0 : List (Nat × Instr × Nat) := [(0, .iconst 0, 1), (1, .istore_n 2, 1), (2, .iload_n 2, 1), (3, .aload_n 0, 1), (4, .getfield 269, 3), (7, .if_icmp .ge 52, 3), (10, .aload_n 0, 1), (11, .getfield 8, 3), (14, .iload_n 2, 1), (15, .invokestatic 294, 3), (18, .iconst 4, 1), (19, .iadd, 1), (20, .iconst 0, 1), (21, .iastore, 1), (22, .aload_n 0, 1), (23, .getfield 8, 3), (26, .iload_n 2, 1), (27, .invokestatic 294, 3), (30, .iconst 5, 1), (31, .iadd, 1), (32, .iload_n 2, 1), (33, .iload_n 1, 1), (34, .if_icmp .ne 17, 3), (37, .aload_n 0, 1), (38, .getfield 8, 3)]
set_option maxRecDepth 20000 in
theorem dn_390_0_0_ok : dn_390_0_0.all (fun q => decide (decode (xm_b n_390) q.1 = .ok (q.2.1, q.2.2))) = true := xa_g_ok (by decide +kernel)
def dn_390_0_1 : List (Nat × Instr × Nat) := [(41, .iload_n 2, 1), (42, .invokestatic 294, 3), (45, .iconst 5, 1), (46, .iadd, 1), (47, .iaload, 1), (48, .goto 4, 3), (51, .iconst 0, 1), (52, .iastore, 1), (53, .iinc 2 1, 3), (56, .goto (-54), 3), (59, .return_, 1)]
set_option maxRecDepth 20000 in
theorem dn_390_0_1_ok : dn_390_0_1.all (fun q => decide (decode (xm_b n_390) q.1 = .ok (q.2.1, q.2.2))) = true := xa_g_ok (by decide +kernel)
def te_390_0 : Nat → eE := (e_T 27 (e_T 14 (e_T 3 (e_T 1 (e_T 0 (e_L 0 (0, ei_push (0, 0) 1, 0, 0)) (e_L 1 (0, ei_stor 2 0 2, 0, 0))) (e_T 2 (e_L 2 (0, ei_load 2 0 3, 0, 0)) (e_L 3 (0, ei_load 0 2 4, 0, 0)))) (e_T 7 (e_T 4 (e_L 4 (0, ei_getf eft elay 12 10 7, 0, 0)) (e_L 7 (0, ei_if2 3 59 10, 0, 0))) (e_T 10 (e_L 10 (0, ei_load 0 2 11, 0, 0)) (e_T 11 (e_L 11 (0, ei_getf eft elay 12 0 14, 0, 0)) (e_L 14 (0, ei_load 2 0 15, 0, 0)))))) (e_T 20 (e_T 18 (e_T 15 (e_L 15 (2, e_nof, 268, 1)) (e_L 18 (0, ei_push (0, 4) 19, 0, 0))) (e_T 19 (e_L 19 (0, ei_bin eF_add 20, 0, 0)) (e_L 20 (0, ei_push (0, 0) 21, 0, 0)))) (e_T 22 (e_T 21 (e_L 21 (0, ei_ast elay false 22, 0, 0)) (e_L 22 (0, ei_load 0 2 23, 0, 0))) (e_T 23 (e_L 23 (0, ei_getf eft elay 12 0 26, 0, 0)) (e_T 26 (e_L 26 (0, ei_load 2 0 27, 0, 0)) (e_L 27 (2, e_nof, 268, 1))))))) (e_T 42 (e_T 33 (e_T 31 (e_T 30 (e_L 30 (0, ei_push (0, 5) 31, 0, 0)) (e_L 31 (0, ei_bin eF_add 32, 0, 0))) (e_T 32 (e_L 32 (0, ei_load 2 0 33, 0, 0)) (e_L 33 (0, ei_load 1 0 34, 0, 0)))) (e_T 37 (e_T 34 (e_L 34 (0, ei_if2 1 51 37, 0, 0)) (e_L 37 (0, ei_load 0 2 38, 0, 0))) (e_T 38 (e_L 38 (0, ei_getf eft elay 12 0 41, 0, 0)) (e_T 41 (e_L 41 (0, ei_load 2 0 42, 0, 0)) (e_L 42 (2, e_nof, 268, 1)))))) (e_T 48 (e_T 46 (e_T 45 (e_L 45 (0, ei_push (0, 5) 46, 0, 0)) (e_L 46 (0, ei_bin eF_add 47, 0, 0))) (e_T 47 (e_L 47 (0, ei_ald elay false 48, 0, 0)) (e_L 48 (0, ei_goto 52, 0, 0)))) (e_T 52 (e_T 51 (e_L 51 (0, ei_push (0, 0) 52, 0, 0)) (e_L 52 (0, ei_ast elay false 53, 0, 0))) (e_T 53 (e_L 53 (0, ei_inc 2 1 56, 0, 0)) (e_T 56 (e_L 56 (0, ei_goto 2, 0, 0)) (e_L 59 (1, e_nof, 0, 0))))))))
set_option maxRecDepth 20000 in
set_option maxHeartbeats 4000000 in
theorem te_390_0_ok : ∀ pc, e_EOq eft cls elay eI n_390 pc (te_390_0 pc) :=
  (e_Tok2
  (e_Tok2
  (e_Tok2
  (e_Tok2
  (e_Tok2
  (e_Lok (ps_iconst_0 (x_dk dn_390_0_0_ok 0 rfl)))
  (e_Lok (e_st (I := eI) (er_istore_n (i := 2) (x_dk dn_390_0_0_ok 1 rfl) (by decide +kernel)) nx_stor)))
  (e_Tok2
  (e_Lok (ld_iload_n_2 (x_dk dn_390_0_0_ok 2 rfl)))
  (e_Lok (ld_aload_n_0 (x_dk dn_390_0_0_ok 3 rfl)))))
  (e_Tok2
  (e_Tok2
  (e_Lok (lk_12_269g ho_390 (x_dk dn_390_0_0_ok 4 rfl)))
  (e_Lok (e_st (I := eI) (er_icmpge (off := 52) (tg := 59) (x_dk dn_390_0_0_ok 5 rfl) (by decide)) nx_if2)))
  (e_Tok2
  (e_Lok (ld_aload_n_0 (x_dk dn_390_0_0_ok 6 rfl)))
  (e_Tok2
  (e_Lok (lk_12_8g ho_390 (x_dk dn_390_0_0_ok 7 rfl)))
  (e_Lok (ld_iload_n_2 (x_dk dn_390_0_0_ok 8 rfl)))))))
  (e_Tok2
  (e_Tok2
  (e_Tok2
  (e_Lok (lk_12_294 ho_390 (x_dk dn_390_0_0_ok 9 rfl)))
  (e_Lok (ps_iconst_4 (x_dk dn_390_0_0_ok 10 rfl))))
  (e_Tok2
  (e_Lok (sm_iadd (x_dk dn_390_0_0_ok 11 rfl)))
  (e_Lok (ps_iconst_0 (x_dk dn_390_0_0_ok 12 rfl)))))
  (e_Tok2
  (e_Tok2
  (e_Lok (sm_iastore (x_dk dn_390_0_0_ok 13 rfl)))
  (e_Lok (ld_aload_n_0 (x_dk dn_390_0_0_ok 14 rfl))))
  (e_Tok2
  (e_Lok (lk_12_8g ho_390 (x_dk dn_390_0_0_ok 15 rfl)))
  (e_Tok2
  (e_Lok (ld_iload_n_2 (x_dk dn_390_0_0_ok 16 rfl)))
  (e_Lok (lk_12_294 ho_390 (x_dk dn_390_0_0_ok 17 rfl))))))))
  (e_Tok2
  (e_Tok2
  (e_Tok2
  (e_Tok2
  (e_Lok (ps_iconst_5 (x_dk dn_390_0_0_ok 18 rfl)))
  (e_Lok (sm_iadd (x_dk dn_390_0_0_ok 19 rfl))))
  (e_Tok2
  (e_Lok (ld_iload_n_2 (x_dk dn_390_0_0_ok 20 rfl)))
  (e_Lok (ld_iload_n_1 (x_dk dn_390_0_0_ok 21 rfl)))))
  (e_Tok2
  (e_Tok2
  (e_Lok (e_st (I := eI) (er_icmpne (off := 17) (tg := 51) (x_dk dn_390_0_0_ok 22 rfl) (by decide)) nx_if2))
  (e_Lok (ld_aload_n_0 (x_dk dn_390_0_0_ok 23 rfl))))
  (e_Tok2
  (e_Lok (lk_12_8g ho_390 (x_dk dn_390_0_0_ok 24 rfl)))
  (e_Tok2
  (e_Lok (ld_iload_n_2 (x_dk dn_390_0_1_ok 0 rfl)))
  (e_Lok (lk_12_294 ho_390 (x_dk dn_390_0_1_ok 1 rfl)))))))
  (e_Tok2
  (e_Tok2
  (e_Tok2
  (e_Lok (ps_iconst_5 (x_dk dn_390_0_1_ok 2 rfl)))
  (e_Lok (sm_iadd (x_dk dn_390_0_1_ok 3 rfl))))
  (e_Tok2
  (e_Lok (sm_iaload (x_dk dn_390_0_1_ok 4 rfl)))
  (e_Lok (e_st (I := eI) (er_goto (off := 4) (tg := 52) (x_dk dn_390_0_1_ok 5 rfl) (by decide)) nx_goto))))
  (e_Tok2
  (e_Tok2
  (e_Lok (ps_iconst_0 (x_dk dn_390_0_1_ok 6 rfl)))
  (e_Lok (sm_iastore (x_dk dn_390_0_1_ok 7 rfl))))
  (e_Tok2
  (e_Lok (e_st (I := eI) (er_iinc (i := 2) (n := 1) (x_dk dn_390_0_1_ok 8 rfl) (by decide +kernel) (by decide)) nx_inc))
  (e_Tok2
  (e_Lok (e_st (I := eI) (er_goto (off := (-54)) (tg := 2) (x_dk dn_390_0_1_ok 9 rfl) (by decide)) nx_goto))
  (e_Lok (e_rt (I := eI) (k := 0) ⟨(x_dk dn_390_0_1_ok 10 rfl), rfl⟩))))))))
def te_390 : Nat → eE := te_390_0
theorem te_390_ok : ∀ pc, e_EOq eft cls elay eI n_390 pc (te_390 pc) := te_390_0_ok
theorem ho_391 : (xm_y n_391).cls = "RobotCellHouseModel" := rfl
def dn_391_0_0 : List (Nat × Instr × Nat) := [(0, .iload_n 1, 1), (1, .invokestatic 294, 3), (4, .istore_n 2, 1), (5, .aload_n 0, 1), (6, .getfield 8, 3), (9, .iload_n 2, 1), (10, .bipush 6, 2), (12, .iadd, 1), (13, .iaload, 1), (14, .ifCond .ne 4, 3), (17, .return_, 1), (18, .aload_n 0, 1), (19, .getfield 8, 3), (22, .iload_n 2, 1), (23, .bipush 7, 2), (25, .iadd, 1), (26, .iaload, 1), (27, .istore_n 3, 1), (28, .iload_n 3, 1), (29, .aload_n 0, 1), (30, .getfield 8, 3), (33, .iload_n 2, 1), (34, .iconst 3, 1), (35, .iadd, 1), (36, .iaload, 1)]
set_option maxRecDepth 20000 in
theorem dn_391_0_0_ok : dn_391_0_0.all (fun q => decide (decode (xm_b n_391) q.1 = .ok (q.2.1, q.2.2))) = true := xa_g_ok (by decide +kernel)
def dn_391_0_1 : List (Nat × Instr × Nat) := [(37, .if_icmp .ne 14, 3), (40, .aload_n 0, 1), (41, .getfield 8, 3), (44, .iload_n 2, 1), (45, .bipush 6, 2), (47, .iadd, 1), (48, .iconst 0, 1), (49, .iastore, 1), (50, .return_, 1), (51, .iconst 0, 1), (52, .istore 4, 2), (54, .iload 4, 2), (56, .aload_n 0, 1), (57, .getfield 43, 3), (60, .iload_n 1, 1), (61, .iaload, 1), (62, .if_icmp .ge 33, 3), (65, .aload_n 0, 1), (66, .getfield 8, 3), (69, .iload_n 2, 1), (70, .bipush 28, 2), (72, .iadd, 1), (73, .iload 4, 2), (75, .iadd, 1), (76, .aload_n 0, 1)]
set_option maxRecDepth 20000 in
theorem dn_391_0_1_ok : dn_391_0_1.all (fun q => decide (decode (xm_b n_391) q.1 = .ok (q.2.1, q.2.2))) = true := xa_g_ok (by decide +kernel)
def dn_391_0_2 : List (Nat × Instr × Nat) := [(77, .getfield 8, 3), (80, .iload_n 2, 1), (81, .bipush 16, 2), (83, .iadd, 1), (84, .iload 4, 2), (86, .iadd, 1), (87, .iaload, 1), (88, .iastore, 1), (89, .iinc 4 1, 3), (92, .goto (-38), 3), (95, .aload_n 0, 1), (96, .getfield 8, 3), (99, .sipush 21060, 3), (102, .sipush 1000, 3), (105, .iload_n 1, 1), (106, .imul, 1), (107, .iadd, 1), (108, .iload_n 3, 1), (109, .iadd, 1), (110, .iaload, 1), (111, .istore 4, 2), (113, .iload_n 3, 1), (114, .aload_n 0, 1), (115, .getfield 8, 3), (118, .iload_n 2, 1)]
set_option maxRecDepth 20000 in
theorem dn_391_0_2_ok : dn_391_0_2.all (fun q => decide (decode (xm_b n_391) q.1 = .ok (q.2.1, q.2.2))) = true := xa_g_ok (by decide +kernel)
def dn_391_0_3 : List (Nat × Instr × Nat) := [(119, .iconst 3, 1), (120, .iadd, 1), (121, .iaload, 1), (122, .if_icmp .ge 76, 3), (125, .aload_n 0, 1), (126, .getfield 8, 3), (129, .sipush 21060, 3), (132, .sipush 1000, 3), (135, .iload_n 1, 1), (136, .imul, 1), (137, .iadd, 1), (138, .iload_n 3, 1), (139, .iadd, 1), (140, .iaload, 1), (141, .iload 4, 2), (143, .if_icmp .ne 55, 3), (146, .aload_n 0, 1), (147, .getfield 8, 3), (150, .iload_n 2, 1), (151, .bipush 28, 2), (153, .iadd, 1), (154, .iload 4, 2), (156, .iconst 2, 1), (157, .idiv, 1), (158, .iadd, 1)]
set_option maxRecDepth 20000 in
theorem dn_391_0_3_ok : dn_391_0_3.all (fun q => decide (decode (xm_b n_391) q.1 = .ok (q.2.1, q.2.2))) = true := xa_g_ok (by decide +kernel)
def dn_391_1_0 : List (Nat × Instr × Nat) := [(159, .dup2, 1), (160, .iaload, 1), (161, .iload 4, 2), (163, .iconst 2, 1), (164, .irem, 1), (165, .ifCond .ne 15, 3), (168, .aload_n 0, 1), (169, .getfield 8, 3), (172, .iload_n 2, 1), (173, .bipush 10, 2), (175, .iadd, 1), (176, .iaload, 1), (177, .goto 13, 3), (180, .aload_n 0, 1), (181, .getfield 8, 3), (184, .iload_n 2, 1), (185, .bipush 10, 2), (187, .iadd, 1), (188, .iaload, 1), (189, .ineg, 1), (190, .iadd, 1), (191, .iastore, 1), (192, .iinc 3 1, 3), (195, .goto (-82), 3), (198, .aload_n 0, 1)]
set_option maxRecDepth 20000 in
theorem dn_391_1_0_ok : dn_391_1_0.all (fun q => decide (decode (xm_b n_391) q.1 = .ok (q.2.1, q.2.2))) = true := xa_g_ok (by decide +kernel)
def dn_391_1_1 : List (Nat × Instr × Nat) := [(199, .getfield 8, 3), (202, .iload_n 2, 1), (203, .bipush 7, 2), (205, .iadd, 1), (206, .iload_n 3, 1), (207, .iastore, 1), (208, .aload_n 0, 1), (209, .iload_n 1, 1), (210, .invokevirtual 744, 3), (213, .return_, 1)]
set_option maxRecDepth 20000 in
theorem dn_391_1_1_ok : dn_391_1_1.all (fun q => decide (decode (xm_b n_391) q.1 = .ok (q.2.1, q.2.2))) = true := xa_g_ok (by decide +kernel)
def te_391_0 : Nat → eE := (e_T 25 (e_T 12 (e_T 5 (e_T 1 (e_T 0 (e_L 0 (0, ei_load 1 0 1, 0, 0)) (e_L 1 (2, e_nof, 268, 1))) (e_T 4 (e_L 4 (0, ei_stor 2 0 5, 0, 0)) (e_L 5 (0, ei_load 0 2 6, 0, 0)))) (e_T 9 (e_T 6 (e_L 6 (0, ei_getf eft elay 12 0 9, 0, 0)) (e_L 9 (0, ei_load 2 0 10, 0, 0))) (e_T 10 (e_L 10 (0, ei_push (0, 6) 12, 0, 0)) (e_L 12 (0, ei_bin eF_add 13, 0, 0))))) (e_T 18 (e_T 14 (e_T 13 (e_L 13 (0, ei_ald elay false 14, 0, 0)) (e_L 14 (0, ei_if1 1 18 17, 0, 0))) (e_T 17 (e_L 17 (1, e_nof, 0, 0)) (e_L 18 (0, ei_load 0 2 19, 0, 0)))) (e_T 22 (e_T 19 (e_L 19 (0, ei_getf eft elay 12 0 22, 0, 0)) (e_L 22 (0, ei_load 2 0 23, 0, 0))) (e_T 23 (e_L 23 (0, ei_push (0, 7) 25, 0, 0)) (e_L 25 (0, ei_bin eF_add 26, 0, 0)))))) (e_T 35 (e_T 29 (e_T 27 (e_T 26 (e_L 26 (0, ei_ald elay false 27, 0, 0)) (e_L 27 (0, ei_stor 3 0 28, 0, 0))) (e_T 28 (e_L 28 (0, ei_load 3 0 29, 0, 0)) (e_L 29 (0, ei_load 0 2 30, 0, 0)))) (e_T 33 (e_T 30 (e_L 30 (0, ei_getf eft elay 12 0 33, 0, 0)) (e_L 33 (0, ei_load 2 0 34, 0, 0))) (e_T 34 (e_L 34 (0, ei_push (0, 3) 35, 0, 0)) (e_L 35 (0, ei_bin eF_add 36, 0, 0))))) (e_T 41 (e_T 37 (e_T 36 (e_L 36 (0, ei_ald elay false 37, 0, 0)) (e_L 37 (0, ei_if2 1 51 40, 0, 0))) (e_T 40 (e_L 40 (0, ei_load 0 2 41, 0, 0)) (e_L 41 (0, ei_getf eft elay 12 0 44, 0, 0)))) (e_T 45 (e_T 44 (e_L 44 (0, ei_load 2 0 45, 0, 0)) (e_L 45 (0, ei_push (0, 6) 47, 0, 0))) (e_T 47 (e_L 47 (0, ei_bin eF_add 48, 0, 0)) (e_T 48 (e_L 48 (0, ei_push (0, 0) 49, 0, 0)) (e_L 49 (0, ei_ast elay false 50, 0, 0))))))))
set_option maxRecDepth 20000 in
set_option maxHeartbeats 4000000 in
theorem te_391_0_ok : ∀ pc, e_EOq eft cls elay eI n_391 pc (te_391_0 pc) :=
  (e_Tok2
  (e_Tok2
  (e_Tok2
  (e_Tok2
  (e_Tok2
  (e_Lok (ld_iload_n_1 (x_dk dn_391_0_0_ok 0 rfl)))
  (e_Lok (lk_12_294 ho_391 (x_dk dn_391_0_0_ok 1 rfl))))
  (e_Tok2
  (e_Lok (e_st (I := eI) (er_istore_n (i := 2) (x_dk dn_391_0_0_ok 2 rfl) (by decide +kernel)) nx_stor))
  (e_Lok (ld_aload_n_0 (x_dk dn_391_0_0_ok 3 rfl)))))
  (e_Tok2
  (e_Tok2
  (e_Lok (lk_12_8g ho_391 (x_dk dn_391_0_0_ok 4 rfl)))
  (e_Lok (ld_iload_n_2 (x_dk dn_391_0_0_ok 5 rfl))))
  (e_Tok2
  (e_Lok (ps_bipush_6 (x_dk dn_391_0_0_ok 6 rfl)))
  (e_Lok (sm_iadd (x_dk dn_391_0_0_ok 7 rfl))))))
  (e_Tok2
  (e_Tok2
  (e_Tok2
  (e_Lok (sm_iaload (x_dk dn_391_0_0_ok 8 rfl)))
  (e_Lok (e_st (I := eI) (er_ifne (off := 4) (tg := 18) (x_dk dn_391_0_0_ok 9 rfl) (by decide)) nx_if1)))
  (e_Tok2
  (e_Lok (e_rt (I := eI) (k := 0) ⟨(x_dk dn_391_0_0_ok 10 rfl), rfl⟩))
  (e_Lok (ld_aload_n_0 (x_dk dn_391_0_0_ok 11 rfl)))))
  (e_Tok2
  (e_Tok2
  (e_Lok (lk_12_8g ho_391 (x_dk dn_391_0_0_ok 12 rfl)))
  (e_Lok (ld_iload_n_2 (x_dk dn_391_0_0_ok 13 rfl))))
  (e_Tok2
  (e_Lok (ps_bipush_7 (x_dk dn_391_0_0_ok 14 rfl)))
  (e_Lok (sm_iadd (x_dk dn_391_0_0_ok 15 rfl)))))))
  (e_Tok2
  (e_Tok2
  (e_Tok2
  (e_Tok2
  (e_Lok (sm_iaload (x_dk dn_391_0_0_ok 16 rfl)))
  (e_Lok (e_st (I := eI) (er_istore_n (i := 3) (x_dk dn_391_0_0_ok 17 rfl) (by decide +kernel)) nx_stor)))
  (e_Tok2
  (e_Lok (ld_iload_n_3 (x_dk dn_391_0_0_ok 18 rfl)))
  (e_Lok (ld_aload_n_0 (x_dk dn_391_0_0_ok 19 rfl)))))
  (e_Tok2
  (e_Tok2
  (e_Lok (lk_12_8g ho_391 (x_dk dn_391_0_0_ok 20 rfl)))
  (e_Lok (ld_iload_n_2 (x_dk dn_391_0_0_ok 21 rfl))))
  (e_Tok2
  (e_Lok (ps_iconst_3 (x_dk dn_391_0_0_ok 22 rfl)))
  (e_Lok (sm_iadd (x_dk dn_391_0_0_ok 23 rfl))))))
  (e_Tok2
  (e_Tok2
  (e_Tok2
  (e_Lok (sm_iaload (x_dk dn_391_0_0_ok 24 rfl)))
  (e_Lok (e_st (I := eI) (er_icmpne (off := 14) (tg := 51) (x_dk dn_391_0_1_ok 0 rfl) (by decide)) nx_if2)))
  (e_Tok2
  (e_Lok (ld_aload_n_0 (x_dk dn_391_0_1_ok 1 rfl)))
  (e_Lok (lk_12_8g ho_391 (x_dk dn_391_0_1_ok 2 rfl)))))
  (e_Tok2
  (e_Tok2
  (e_Lok (ld_iload_n_2 (x_dk dn_391_0_1_ok 3 rfl)))
  (e_Lok (ps_bipush_6 (x_dk dn_391_0_1_ok 4 rfl))))
  (e_Tok2
  (e_Lok (sm_iadd (x_dk dn_391_0_1_ok 5 rfl)))
  (e_Tok2
  (e_Lok (ps_iconst_0 (x_dk dn_391_0_1_ok 6 rfl)))
  (e_Lok (sm_iastore (x_dk dn_391_0_1_ok 7 rfl)))))))))
def te_391_33 : Nat → eE := (e_T 76 (e_T 61 (e_T 54 (e_T 51 (e_T 50 (e_L 50 (1, e_nof, 0, 0)) (e_L 51 (0, ei_push (0, 0) 52, 0, 0))) (e_T 52 (e_L 52 (0, ei_stor 4 0 54, 0, 0)) (e_L 54 (0, ei_load 4 0 56, 0, 0)))) (e_T 57 (e_T 56 (e_L 56 (0, ei_load 0 2 57, 0, 0)) (e_L 57 (0, ei_getf eft elay 12 15 60, 0, 0))) (e_T 60 (e_L 60 (0, ei_load 1 0 61, 0, 0)) (e_L 61 (0, ei_ald elay false 62, 0, 0))))) (e_T 69 (e_T 65 (e_T 62 (e_L 62 (0, ei_if2 3 95 65, 0, 0)) (e_L 65 (0, ei_load 0 2 66, 0, 0))) (e_T 66 (e_L 66 (0, ei_getf eft elay 12 0 69, 0, 0)) (e_L 69 (0, ei_load 2 0 70, 0, 0)))) (e_T 72 (e_T 70 (e_L 70 (0, ei_push (0, 28) 72, 0, 0)) (e_L 72 (0, ei_bin eF_add 73, 0, 0))) (e_T 73 (e_L 73 (0, ei_load 4 0 75, 0, 0)) (e_T 75 (e_L 75 (0, ei_bin eF_add 76, 0, 0)) (e_L 76 (0, ei_load 0 2 77, 0, 0))))))) (e_T 88 (e_T 83 (e_T 80 (e_T 77 (e_L 77 (0, ei_getf eft elay 12 0 80, 0, 0)) (e_L 80 (0, ei_load 2 0 81, 0, 0))) (e_T 81 (e_L 81 (0, ei_push (0, 16) 83, 0, 0)) (e_L 83 (0, ei_bin eF_add 84, 0, 0)))) (e_T 86 (e_T 84 (e_L 84 (0, ei_load 4 0 86, 0, 0)) (e_L 86 (0, ei_bin eF_add 87, 0, 0))) (e_T 87 (e_L 87 (0, ei_ald elay false 88, 0, 0)) (e_L 88 (0, ei_ast elay false 89, 0, 0))))) (e_T 96 (e_T 92 (e_T 89 (e_L 89 (0, ei_inc 4 1 92, 0, 0)) (e_L 92 (0, ei_goto 54, 0, 0))) (e_T 95 (e_L 95 (0, ei_load 0 2 96, 0, 0)) (e_L 96 (0, ei_getf eft elay 12 0 99, 0, 0)))) (e_T 102 (e_T 99 (e_L 99 (0, ei_push (0, 21060) 102, 0, 0)) (e_L 102 (0, ei_push (0, 1000) 105, 0, 0))) (e_T 105 (e_L 105 (0, ei_load 1 0 106, 0, 0)) (e_T 106 (e_L 106 (0, ei_bin eF_mul 107, 0, 0)) (e_L 107 (0, ei_bin eF_add 108, 0, 0))))))))
set_option maxRecDepth 20000 in
set_option maxHeartbeats 4000000 in
theorem te_391_33_ok : ∀ pc, e_EOq eft cls elay eI n_391 pc (te_391_33 pc) :=
  (e_Tok2
  (e_Tok2
  (e_Tok2
  (e_Tok2
  (e_Tok2
  (e_Lok (e_rt (I := eI) (k := 0) ⟨(x_dk dn_391_0_1_ok 8 rfl), rfl⟩))
  (e_Lok (ps_iconst_0 (x_dk dn_391_0_1_ok 9 rfl))))
  (e_Tok2
  (e_Lok (e_st (I := eI) (er_istore (i := 4) (x_dk dn_391_0_1_ok 10 rfl) (by decide +kernel)) nx_stor))
  (e_Lok (ld_iload_4 (x_dk dn_391_0_1_ok 11 rfl)))))
  (e_Tok2
  (e_Tok2
  (e_Lok (ld_aload_n_0 (x_dk dn_391_0_1_ok 12 rfl)))
  (e_Lok (lk_12_43g ho_391 (x_dk dn_391_0_1_ok 13 rfl))))
  (e_Tok2
  (e_Lok (ld_iload_n_1 (x_dk dn_391_0_1_ok 14 rfl)))
  (e_Lok (sm_iaload (x_dk dn_391_0_1_ok 15 rfl))))))
  (e_Tok2
  (e_Tok2
  (e_Tok2
  (e_Lok (e_st (I := eI) (er_icmpge (off := 33) (tg := 95) (x_dk dn_391_0_1_ok 16 rfl) (by decide)) nx_if2))
  (e_Lok (ld_aload_n_0 (x_dk dn_391_0_1_ok 17 rfl))))
  (e_Tok2
  (e_Lok (lk_12_8g ho_391 (x_dk dn_391_0_1_ok 18 rfl)))
  (e_Lok (ld_iload_n_2 (x_dk dn_391_0_1_ok 19 rfl)))))
  (e_Tok2
  (e_Tok2
  (e_Lok (ps_bipush_28 (x_dk dn_391_0_1_ok 20 rfl)))
  (e_Lok (sm_iadd (x_dk dn_391_0_1_ok 21 rfl))))
  (e_Tok2
  (e_Lok (ld_iload_4 (x_dk dn_391_0_1_ok 22 rfl)))
  (e_Tok2
  (e_Lok (sm_iadd (x_dk dn_391_0_1_ok 23 rfl)))
  (e_Lok (ld_aload_n_0 (x_dk dn_391_0_1_ok 24 rfl))))))))
  (e_Tok2
  (e_Tok2
  (e_Tok2
  (e_Tok2
  (e_Lok (lk_12_8g ho_391 (x_dk dn_391_0_2_ok 0 rfl)))
  (e_Lok (ld_iload_n_2 (x_dk dn_391_0_2_ok 1 rfl))))
  (e_Tok2
  (e_Lok (ps_bipush_16 (x_dk dn_391_0_2_ok 2 rfl)))
  (e_Lok (sm_iadd (x_dk dn_391_0_2_ok 3 rfl)))))
  (e_Tok2
  (e_Tok2
  (e_Lok (ld_iload_4 (x_dk dn_391_0_2_ok 4 rfl)))
  (e_Lok (sm_iadd (x_dk dn_391_0_2_ok 5 rfl))))
  (e_Tok2
  (e_Lok (sm_iaload (x_dk dn_391_0_2_ok 6 rfl)))
  (e_Lok (sm_iastore (x_dk dn_391_0_2_ok 7 rfl))))))
  (e_Tok2
  (e_Tok2
  (e_Tok2
  (e_Lok (e_st (I := eI) (er_iinc (i := 4) (n := 1) (x_dk dn_391_0_2_ok 8 rfl) (by decide +kernel) (by decide)) nx_inc))
  (e_Lok (e_st (I := eI) (er_goto (off := (-38)) (tg := 54) (x_dk dn_391_0_2_ok 9 rfl) (by decide)) nx_goto)))
  (e_Tok2
  (e_Lok (ld_aload_n_0 (x_dk dn_391_0_2_ok 10 rfl)))
  (e_Lok (lk_12_8g ho_391 (x_dk dn_391_0_2_ok 11 rfl)))))
  (e_Tok2
  (e_Tok2
  (e_Lok (ps_sipush_21060 (x_dk dn_391_0_2_ok 12 rfl)))
  (e_Lok (ps_sipush_1000 (x_dk dn_391_0_2_ok 13 rfl))))
  (e_Tok2
  (e_Lok (ld_iload_n_1 (x_dk dn_391_0_2_ok 14 rfl)))
  (e_Tok2
  (e_Lok (sm_imul (x_dk dn_391_0_2_ok 15 rfl)))
  (e_Lok (sm_iadd (x_dk dn_391_0_2_ok 16 rfl)))))))))
def te_391_67 : Nat → eE := (e_T 135 (e_T 118 (e_T 111 (e_T 109 (e_T 108 (e_L 108 (0, ei_load 3 0 109, 0, 0)) (e_L 109 (0, ei_bin eF_add 110, 0, 0))) (e_T 110 (e_L 110 (0, ei_ald elay false 111, 0, 0)) (e_L 111 (0, ei_stor 4 0 113, 0, 0)))) (e_T 114 (e_T 113 (e_L 113 (0, ei_load 3 0 114, 0, 0)) (e_L 114 (0, ei_load 0 2 115, 0, 0))) (e_T 115 (e_L 115 (0, ei_getf eft elay 12 0 118, 0, 0)) (e_L 118 (0, ei_load 2 0 119, 0, 0))))) (e_T 122 (e_T 120 (e_T 119 (e_L 119 (0, ei_push (0, 3) 120, 0, 0)) (e_L 120 (0, ei_bin eF_add 121, 0, 0))) (e_T 121 (e_L 121 (0, ei_ald elay false 122, 0, 0)) (e_L 122 (0, ei_if2 3 198 125, 0, 0)))) (e_T 126 (e_T 125 (e_L 125 (0, ei_load 0 2 126, 0, 0)) (e_L 126 (0, ei_getf eft elay 12 0 129, 0, 0))) (e_T 129 (e_L 129 (0, ei_push (0, 21060) 132, 0, 0)) (e_T 132 (e_L 132 (0, ei_push (0, 1000) 135, 0, 0)) (e_L 135 (0, ei_load 1 0 136, 0, 0))))))) (e_T 146 (e_T 139 (e_T 137 (e_T 136 (e_L 136 (0, ei_bin eF_mul 137, 0, 0)) (e_L 137 (0, ei_bin eF_add 138, 0, 0))) (e_T 138 (e_L 138 (0, ei_load 3 0 139, 0, 0)) (e_L 139 (0, ei_bin eF_add 140, 0, 0)))) (e_T 141 (e_T 140 (e_L 140 (0, ei_ald elay false 141, 0, 0)) (e_L 141 (0, ei_load 4 0 143, 0, 0))) (e_T 143 (e_L 143 (0, ei_if2 1 198 146, 0, 0)) (e_L 146 (0, ei_load 0 2 147, 0, 0))))) (e_T 153 (e_T 150 (e_T 147 (e_L 147 (0, ei_getf eft elay 12 0 150, 0, 0)) (e_L 150 (0, ei_load 2 0 151, 0, 0))) (e_T 151 (e_L 151 (0, ei_push (0, 28) 153, 0, 0)) (e_L 153 (0, ei_bin eF_add 154, 0, 0)))) (e_T 156 (e_T 154 (e_L 154 (0, ei_load 4 0 156, 0, 0)) (e_L 156 (0, ei_push (0, 2) 157, 0, 0))) (e_T 157 (e_L 157 (0, ei_bin eF_div 158, 0, 0)) (e_T 158 (e_L 158 (0, ei_bin eF_add 159, 0, 0)) (e_L 159 (0, ei_stk ef_dup2 160, 0, 0))))))))
set_option maxRecDepth 20000 in
set_option maxHeartbeats 4000000 in
theorem te_391_67_ok : ∀ pc, e_EOq eft cls elay eI n_391 pc (te_391_67 pc) :=
  (e_Tok2
  (e_Tok2
  (e_Tok2
  (e_Tok2
  (e_Tok2
  (e_Lok (ld_iload_n_3 (x_dk dn_391_0_2_ok 17 rfl)))
  (e_Lok (sm_iadd (x_dk dn_391_0_2_ok 18 rfl))))
  (e_Tok2
  (e_Lok (sm_iaload (x_dk dn_391_0_2_ok 19 rfl)))
  (e_Lok (e_st (I := eI) (er_istore (i := 4) (x_dk dn_391_0_2_ok 20 rfl) (by decide +kernel)) nx_stor))))
  (e_Tok2
  (e_Tok2
  (e_Lok (ld_iload_n_3 (x_dk dn_391_0_2_ok 21 rfl)))
  (e_Lok (ld_aload_n_0 (x_dk dn_391_0_2_ok 22 rfl))))
  (e_Tok2
  (e_Lok (lk_12_8g ho_391 (x_dk dn_391_0_2_ok 23 rfl)))
  (e_Lok (ld_iload_n_2 (x_dk dn_391_0_2_ok 24 rfl))))))
  (e_Tok2
  (e_Tok2
  (e_Tok2
  (e_Lok (ps_iconst_3 (x_dk dn_391_0_3_ok 0 rfl)))
  (e_Lok (sm_iadd (x_dk dn_391_0_3_ok 1 rfl))))
  (e_Tok2
  (e_Lok (sm_iaload (x_dk dn_391_0_3_ok 2 rfl)))
  (e_Lok (e_st (I := eI) (er_icmpge (off := 76) (tg := 198) (x_dk dn_391_0_3_ok 3 rfl) (by decide)) nx_if2))))
  (e_Tok2
  (e_Tok2
  (e_Lok (ld_aload_n_0 (x_dk dn_391_0_3_ok 4 rfl)))
  (e_Lok (lk_12_8g ho_391 (x_dk dn_391_0_3_ok 5 rfl))))
  (e_Tok2
  (e_Lok (ps_sipush_21060 (x_dk dn_391_0_3_ok 6 rfl)))
  (e_Tok2
  (e_Lok (ps_sipush_1000 (x_dk dn_391_0_3_ok 7 rfl)))
  (e_Lok (ld_iload_n_1 (x_dk dn_391_0_3_ok 8 rfl))))))))
  (e_Tok2
  (e_Tok2
  (e_Tok2
  (e_Tok2
  (e_Lok (sm_imul (x_dk dn_391_0_3_ok 9 rfl)))
  (e_Lok (sm_iadd (x_dk dn_391_0_3_ok 10 rfl))))
  (e_Tok2
  (e_Lok (ld_iload_n_3 (x_dk dn_391_0_3_ok 11 rfl)))
  (e_Lok (sm_iadd (x_dk dn_391_0_3_ok 12 rfl)))))
  (e_Tok2
  (e_Tok2
  (e_Lok (sm_iaload (x_dk dn_391_0_3_ok 13 rfl)))
  (e_Lok (ld_iload_4 (x_dk dn_391_0_3_ok 14 rfl))))
  (e_Tok2
  (e_Lok (e_st (I := eI) (er_icmpne (off := 55) (tg := 198) (x_dk dn_391_0_3_ok 15 rfl) (by decide)) nx_if2))
  (e_Lok (ld_aload_n_0 (x_dk dn_391_0_3_ok 16 rfl))))))
  (e_Tok2
  (e_Tok2
  (e_Tok2
  (e_Lok (lk_12_8g ho_391 (x_dk dn_391_0_3_ok 17 rfl)))
  (e_Lok (ld_iload_n_2 (x_dk dn_391_0_3_ok 18 rfl))))
  (e_Tok2
  (e_Lok (ps_bipush_28 (x_dk dn_391_0_3_ok 19 rfl)))
  (e_Lok (sm_iadd (x_dk dn_391_0_3_ok 20 rfl)))))
  (e_Tok2
  (e_Tok2
  (e_Lok (ld_iload_4 (x_dk dn_391_0_3_ok 21 rfl)))
  (e_Lok (ps_iconst_2 (x_dk dn_391_0_3_ok 22 rfl))))
  (e_Tok2
  (e_Lok (e_st (I := eI) (er_idiv (x_dk dn_391_0_3_ok 23 rfl)) nx_bin))
  (e_Tok2
  (e_Lok (sm_iadd (x_dk dn_391_0_3_ok 24 rfl)))
  (e_Lok (e_st (I := eI) (er_dup2 (x_dk dn_391_1_0_ok 0 rfl)) (nx_stk bf_dup2)))))))))
def te_391_101 : Nat → eE := (e_T 187 (e_T 172 (e_T 164 (e_T 161 (e_T 160 (e_L 160 (0, ei_ald elay false 161, 0, 0)) (e_L 161 (0, ei_load 4 0 163, 0, 0))) (e_T 163 (e_L 163 (0, ei_push (0, 2) 164, 0, 0)) (e_L 164 (0, ei_bin eF_rem 165, 0, 0)))) (e_T 168 (e_T 165 (e_L 165 (0, ei_if1 1 180 168, 0, 0)) (e_L 168 (0, ei_load 0 2 169, 0, 0))) (e_T 169 (e_L 169 (0, ei_getf eft elay 12 0 172, 0, 0)) (e_L 172 (0, ei_load 2 0 173, 0, 0))))) (e_T 177 (e_T 175 (e_T 173 (e_L 173 (0, ei_push (0, 10) 175, 0, 0)) (e_L 175 (0, ei_bin eF_add 176, 0, 0))) (e_T 176 (e_L 176 (0, ei_ald elay false 177, 0, 0)) (e_L 177 (0, ei_goto 190, 0, 0)))) (e_T 181 (e_T 180 (e_L 180 (0, ei_load 0 2 181, 0, 0)) (e_L 181 (0, ei_getf eft elay 12 0 184, 0, 0))) (e_T 184 (e_L 184 (0, ei_load 2 0 185, 0, 0)) (e_T 185 (e_L 185 (0, ei_push (0, 10) 187, 0, 0)) (e_L 187 (0, ei_bin eF_add 188, 0, 0))))))) (e_T 199 (e_T 191 (e_T 189 (e_T 188 (e_L 188 (0, ei_ald elay false 189, 0, 0)) (e_L 189 (0, ei_un (fun x => (0, e32 (-x))) 190, 0, 0))) (e_T 190 (e_L 190 (0, ei_bin eF_add 191, 0, 0)) (e_L 191 (0, ei_ast elay false 192, 0, 0)))) (e_T 195 (e_T 192 (e_L 192 (0, ei_inc 3 1 195, 0, 0)) (e_L 195 (0, ei_goto 113, 0, 0))) (e_T 198 (e_L 198 (0, ei_load 0 2 199, 0, 0)) (e_L 199 (0, ei_getf eft elay 12 0 202, 0, 0))))) (e_T 206 (e_T 203 (e_T 202 (e_L 202 (0, ei_load 2 0 203, 0, 0)) (e_L 203 (0, ei_push (0, 7) 205, 0, 0))) (e_T 205 (e_L 205 (0, ei_bin eF_add 206, 0, 0)) (e_L 206 (0, ei_load 3 0 207, 0, 0)))) (e_T 208 (e_T 207 (e_L 207 (0, ei_ast elay false 208, 0, 0)) (e_L 208 (0, ei_load 0 2 209, 0, 0))) (e_T 209 (e_L 209 (0, ei_load 1 0 210, 0, 0)) (e_T 210 (e_L 210 (2, e_nof, 381, 2)) (e_L 213 (1, e_nof, 0, 0))))))))
set_option maxRecDepth 20000 in
set_option maxHeartbeats 4000000 in
theorem te_391_101_ok : ∀ pc, e_EOq eft cls elay eI n_391 pc (te_391_101 pc) :=
  (e_Tok2
  (e_Tok2
  (e_Tok2
  (e_Tok2
  (e_Tok2
  (e_Lok (sm_iaload (x_dk dn_391_1_0_ok 1 rfl)))
  (e_Lok (ld_iload_4 (x_dk dn_391_1_0_ok 2 rfl))))
  (e_Tok2
  (e_Lok (ps_iconst_2 (x_dk dn_391_1_0_ok 3 rfl)))
  (e_Lok (e_st (I := eI) (er_irem (x_dk dn_391_1_0_ok 4 rfl)) nx_bin))))
  (e_Tok2
  (e_Tok2
  (e_Lok (e_st (I := eI) (er_ifne (off := 15) (tg := 180) (x_dk dn_391_1_0_ok 5 rfl) (by decide)) nx_if1))
  (e_Lok (ld_aload_n_0 (x_dk dn_391_1_0_ok 6 rfl))))
  (e_Tok2
  (e_Lok (lk_12_8g ho_391 (x_dk dn_391_1_0_ok 7 rfl)))
  (e_Lok (ld_iload_n_2 (x_dk dn_391_1_0_ok 8 rfl))))))
  (e_Tok2
  (e_Tok2
  (e_Tok2
  (e_Lok (ps_bipush_10 (x_dk dn_391_1_0_ok 9 rfl)))
  (e_Lok (sm_iadd (x_dk dn_391_1_0_ok 10 rfl))))
  (e_Tok2
  (e_Lok (sm_iaload (x_dk dn_391_1_0_ok 11 rfl)))
  (e_Lok (e_st (I := eI) (er_goto (off := 13) (tg := 190) (x_dk dn_391_1_0_ok 12 rfl) (by decide)) nx_goto))))
  (e_Tok2
  (e_Tok2
  (e_Lok (ld_aload_n_0 (x_dk dn_391_1_0_ok 13 rfl)))
  (e_Lok (lk_12_8g ho_391 (x_dk dn_391_1_0_ok 14 rfl))))
  (e_Tok2
  (e_Lok (ld_iload_n_2 (x_dk dn_391_1_0_ok 15 rfl)))
  (e_Tok2
  (e_Lok (ps_bipush_10 (x_dk dn_391_1_0_ok 16 rfl)))
  (e_Lok (sm_iadd (x_dk dn_391_1_0_ok 17 rfl))))))))
  (e_Tok2
  (e_Tok2
  (e_Tok2
  (e_Tok2
  (e_Lok (sm_iaload (x_dk dn_391_1_0_ok 18 rfl)))
  (e_Lok (e_st (I := eI) (er_ineg (x_dk dn_391_1_0_ok 19 rfl)) (nx_un (fun _ => rfl)))))
  (e_Tok2
  (e_Lok (sm_iadd (x_dk dn_391_1_0_ok 20 rfl)))
  (e_Lok (sm_iastore (x_dk dn_391_1_0_ok 21 rfl)))))
  (e_Tok2
  (e_Tok2
  (e_Lok (e_st (I := eI) (er_iinc (i := 3) (n := 1) (x_dk dn_391_1_0_ok 22 rfl) (by decide +kernel) (by decide)) nx_inc))
  (e_Lok (e_st (I := eI) (er_goto (off := (-82)) (tg := 113) (x_dk dn_391_1_0_ok 23 rfl) (by decide)) nx_goto)))
  (e_Tok2
  (e_Lok (ld_aload_n_0 (x_dk dn_391_1_0_ok 24 rfl)))
  (e_Lok (lk_12_8g ho_391 (x_dk dn_391_1_1_ok 0 rfl))))))
  (e_Tok2
  (e_Tok2
  (e_Tok2
  (e_Lok (ld_iload_n_2 (x_dk dn_391_1_1_ok 1 rfl)))
  (e_Lok (ps_bipush_7 (x_dk dn_391_1_1_ok 2 rfl))))
  (e_Tok2
  (e_Lok (sm_iadd (x_dk dn_391_1_1_ok 3 rfl)))
  (e_Lok (ld_iload_n_3 (x_dk dn_391_1_1_ok 4 rfl)))))
  (e_Tok2
  (e_Tok2
  (e_Lok (sm_iastore (x_dk dn_391_1_1_ok 5 rfl)))
  (e_Lok (ld_aload_n_0 (x_dk dn_391_1_1_ok 6 rfl))))
  (e_Tok2
  (e_Lok (ld_iload_n_1 (x_dk dn_391_1_1_ok 7 rfl)))
  (e_Tok2
  (e_Lok (lk_12_744 ho_391 (x_dk dn_391_1_1_ok 8 rfl)))
  (e_Lok (e_rt (I := eI) (k := 0) ⟨(x_dk dn_391_1_1_ok 9 rfl), rfl⟩))))))))
def te_391 : Nat → eE := (e_T 107 (e_T 49 te_391_0 te_391_33) (e_T 159 te_391_67 te_391_101))
theorem te_391_ok : ∀ pc, e_EOq eft cls elay eI n_391 pc (te_391 pc) := (e_Tok2 ((e_Tok2 (te_391_0_ok) (te_391_33_ok))) ((e_Tok2 (te_391_67_ok) (te_391_101_ok))))
theorem ho_392 : (xm_y n_392).cls = "RobotCellHouseModel" := rfl
def dn_392_0_0 : List (Nat × Instr × Nat) := [(0, .sipush 20576, 3), (3, .iconst 4, 1), (4, .iload_n 0, 1), (5, .imul, 1), (6, .iadd, 1), (7, .ireturn, 1)]
set_option maxRecDepth 20000 in
theorem dn_392_0_0_ok : dn_392_0_0.all (fun q => decide (decode (xm_b n_392) q.1 = .ok (q.2.1, q.2.2))) = true := xa_g_ok (by decide +kernel)
def te_392_0 : Nat → eE := (e_T 4 (e_T 0 (e_L 0 (0, ei_push (0, 20576) 3, 0, 0)) (e_T 3 (e_L 3 (0, ei_push (0, 4) 4, 0, 0)) (e_L 4 (0, ei_load 0 0 5, 0, 0)))) (e_T 5 (e_L 5 (0, ei_bin eF_mul 6, 0, 0)) (e_T 6 (e_L 6 (0, ei_bin eF_add 7, 0, 0)) (e_L 7 (1, e_nof, 1, 0)))))
set_option maxRecDepth 20000 in
set_option maxHeartbeats 4000000 in
theorem te_392_0_ok : ∀ pc, e_EOq eft cls elay eI n_392 pc (te_392_0 pc) :=
  (e_Tok2
  (e_Tok2
  (e_Lok (ps_sipush_20576 (x_dk dn_392_0_0_ok 0 rfl)))
  (e_Tok2
  (e_Lok (ps_iconst_4 (x_dk dn_392_0_0_ok 1 rfl)))
  (e_Lok (ld_iload_n_0 (x_dk dn_392_0_0_ok 2 rfl)))))
  (e_Tok2
  (e_Lok (sm_imul (x_dk dn_392_0_0_ok 3 rfl)))
  (e_Tok2
  (e_Lok (sm_iadd (x_dk dn_392_0_0_ok 4 rfl)))
  (e_Lok (e_rt (I := eI) (k := 1) ⟨(x_dk dn_392_0_0_ok 5 rfl), rfl⟩)))))
def te_392 : Nat → eE := te_392_0
theorem te_392_ok : ∀ pc, e_EOq eft cls elay eI n_392 pc (te_392 pc) := te_392_0_ok
theorem ho_393 : (xm_y n_393).cls = "RobotCellHouseModel" := rfl
def dn_393_0_0 : List (Nat × Instr × Nat) := [(0, .sipush 20704, 3), (3, .bipush 33, 2), (5, .iload_n 2, 1), (6, .imul, 1), (7, .iadd, 1), (8, .istore 4, 2), (10, .aload_n 0, 1), (11, .getfield 8, 3), (14, .iload 4, 2), (16, .iaload, 1), (17, .istore 5, 2), (19, .iload 5, 2), (21, .istore 6, 2), (23, .iload 6, 2), (25, .ifCond .le 55, 3), (28, .aload_n 0, 1), (29, .getfield 8, 3), (32, .aload_n 0, 1), (33, .getfield 8, 3), (36, .iload 4, 2), (38, .iload 6, 2), (40, .iadd, 1), (41, .iaload, 1), (42, .invokestatic 774, 3), (45, .iconst 3, 1)]
set_option maxRecDepth 20000 in
theorem dn_393_0_0_ok : dn_393_0_0.all (fun q => decide (decode (xm_b n_393) q.1 = .ok (q.2.1, q.2.2))) = true := xa_g_ok (by decide +kernel)
def dn_393_0_1 : List (Nat × Instr × Nat) := [(46, .iadd, 1), (47, .iaload, 1), (48, .iload_n 3, 1), (49, .if_icmp .ge 31, 3), (52, .aload_n 0, 1), (53, .getfield 8, 3), (56, .iload 4, 2), (58, .iload 6, 2), (60, .iadd, 1), (61, .iconst 1, 1), (62, .iadd, 1), (63, .aload_n 0, 1), (64, .getfield 8, 3), (67, .iload 4, 2), (69, .iload 6, 2), (71, .iadd, 1), (72, .iaload, 1), (73, .iastore, 1), (74, .iinc 6 (-1), 3), (77, .goto (-54), 3), (80, .aload_n 0, 1), (81, .getfield 8, 3), (84, .iload 4, 2), (86, .iload 6, 2), (88, .iadd, 1)]
set_option maxRecDepth 20000 in
theorem dn_393_0_1_ok : dn_393_0_1.all (fun q => decide (decode (xm_b n_393) q.1 = .ok (q.2.1, q.2.2))) = true := xa_g_ok (by decide +kernel)
def dn_393_0_2 : List (Nat × Instr × Nat) := [(89, .iconst 1, 1), (90, .iadd, 1), (91, .iload_n 1, 1), (92, .iastore, 1), (93, .aload_n 0, 1), (94, .getfield 8, 3), (97, .iload 4, 2), (99, .iload 5, 2), (101, .iconst 1, 1), (102, .iadd, 1), (103, .iastore, 1), (104, .aload_n 0, 1), (105, .getfield 8, 3), (108, .iload_n 1, 1), (109, .invokestatic 774, 3), (112, .iload_n 2, 1), (113, .iastore, 1), (114, .aload_n 0, 1), (115, .getfield 8, 3), (118, .iload_n 1, 1), (119, .invokestatic 774, 3), (122, .iconst 3, 1), (123, .iadd, 1), (124, .iload_n 3, 1), (125, .iastore, 1)]
set_option maxRecDepth 20000 in
theorem dn_393_0_2_ok : dn_393_0_2.all (fun q => decide (decode (xm_b n_393) q.1 = .ok (q.2.1, q.2.2))) = true := xa_g_ok (by decide +kernel)
def dn_393_0_3 : List (Nat × Instr × Nat) := [(126, .return_, 1)]
set_option maxRecDepth 20000 in
theorem dn_393_0_3_ok : dn_393_0_3.all (fun q => decide (decode (xm_b n_393) q.1 = .ok (q.2.1, q.2.2))) = true := xa_g_ok (by decide +kernel)
def te_393_0 : Nat → eE := (e_T 33 (e_T 14 (e_T 6 (e_T 3 (e_T 0 (e_L 0 (0, ei_push (0, 20704) 3, 0, 0)) (e_L 3 (0, ei_push (0, 33) 5, 0, 0))) (e_T 5 (e_L 5 (0, ei_load 2 0 6, 0, 0)) (e_L 6 (0, ei_bin eF_mul 7, 0, 0)))) (e_T 8 (e_T 7 (e_L 7 (0, ei_bin eF_add 8, 0, 0)) (e_L 8 (0, ei_stor 4 0 10, 0, 0))) (e_T 10 (e_L 10 (0, ei_load 0 2 11, 0, 0)) (e_T 11 (e_L 11 (0, ei_getf eft elay 12 0 14, 0, 0)) (e_L 14 (0, ei_load 4 0 16, 0, 0)))))) (e_T 23 (e_T 17 (e_T 16 (e_L 16 (0, ei_ald elay false 17, 0, 0)) (e_L 17 (0, ei_stor 5 0 19, 0, 0))) (e_T 19 (e_L 19 (0, ei_load 5 0 21, 0, 0)) (e_T 21 (e_L 21 (0, ei_stor 6 0 23, 0, 0)) (e_L 23 (0, ei_load 6 0 25, 0, 0))))) (e_T 28 (e_T 25 (e_L 25 (0, ei_if1 5 80 28, 0, 0)) (e_L 28 (0, ei_load 0 2 29, 0, 0))) (e_T 29 (e_L 29 (0, ei_getf eft elay 12 0 32, 0, 0)) (e_T 32 (e_L 32 (0, ei_load 0 2 33, 0, 0)) (e_L 33 (0, ei_getf eft elay 12 0 36, 0, 0))))))) (e_T 48 (e_T 41 (e_T 38 (e_T 36 (e_L 36 (0, ei_load 4 0 38, 0, 0)) (e_L 38 (0, ei_load 6 0 40, 0, 0))) (e_T 40 (e_L 40 (0, ei_bin eF_add 41, 0, 0)) (e_L 41 (0, ei_ald elay false 42, 0, 0)))) (e_T 45 (e_T 42 (e_L 42 (2, e_nof, 392, 1)) (e_L 45 (0, ei_push (0, 3) 46, 0, 0))) (e_T 46 (e_L 46 (0, ei_bin eF_add 47, 0, 0)) (e_T 47 (e_L 47 (0, ei_ald elay false 48, 0, 0)) (e_L 48 (0, ei_load 3 0 49, 0, 0)))))) (e_T 58 (e_T 52 (e_T 49 (e_L 49 (0, ei_if2 3 80 52, 0, 0)) (e_L 52 (0, ei_load 0 2 53, 0, 0))) (e_T 53 (e_L 53 (0, ei_getf eft elay 12 0 56, 0, 0)) (e_T 56 (e_L 56 (0, ei_load 4 0 58, 0, 0)) (e_L 58 (0, ei_load 6 0 60, 0, 0))))) (e_T 61 (e_T 60 (e_L 60 (0, ei_bin eF_add 61, 0, 0)) (e_L 61 (0, ei_push (0, 1) 62, 0, 0))) (e_T 62 (e_L 62 (0, ei_bin eF_add 63, 0, 0)) (e_T 63 (e_L 63 (0, ei_load 0 2 64, 0, 0)) (e_L 64 (0, ei_getf eft elay 12 0 67, 0, 0))))))))
set_option maxRecDepth 20000 in
set_option maxHeartbeats 4000000 in
theorem te_393_0_ok : ∀ pc, e_EOq eft cls elay eI n_393 pc (te_393_0 pc) :=
  (e_Tok2
  (e_Tok2
  (e_Tok2
  (e_Tok2
  (e_Tok2
  (e_Lok (ps_sipush_20704 (x_dk dn_393_0_0_ok 0 rfl)))
  (e_Lok (ps_bipush_33 (x_dk dn_393_0_0_ok 1 rfl))))
  (e_Tok2
  (e_Lok (ld_iload_n_2 (x_dk dn_393_0_0_ok 2 rfl)))
  (e_Lok (sm_imul (x_dk dn_393_0_0_ok 3 rfl)))))
  (e_Tok2
  (e_Tok2
  (e_Lok (sm_iadd (x_dk dn_393_0_0_ok 4 rfl)))
  (e_Lok (e_st (I := eI) (er_istore (i := 4) (x_dk dn_393_0_0_ok 5 rfl) (by decide +kernel)) nx_stor)))
  (e_Tok2
  (e_Lok (ld_aload_n_0 (x_dk dn_393_0_0_ok 6 rfl)))
  (e_Tok2
  (e_Lok (lk_12_8g ho_393 (x_dk dn_393_0_0_ok 7 rfl)))
  (e_Lok (ld_iload_4 (x_dk dn_393_0_0_ok 8 rfl)))))))
  (e_Tok2
  (e_Tok2
  (e_Tok2
  (e_Lok (sm_iaload (x_dk dn_393_0_0_ok 9 rfl)))
  (e_Lok (e_st (I := eI) (er_istore (i := 5) (x_dk dn_393_0_0_ok 10 rfl) (by decide +kernel)) nx_stor)))
  (e_Tok2
  (e_Lok (ld_iload_5 (x_dk dn_393_0_0_ok 11 rfl)))
  (e_Tok2
  (e_Lok (e_st (I := eI) (er_istore (i := 6) (x_dk dn_393_0_0_ok 12 rfl) (by decide +kernel)) nx_stor))
  (e_Lok (ld_iload_6 (x_dk dn_393_0_0_ok 13 rfl))))))
  (e_Tok2
  (e_Tok2
  (e_Lok (e_st (I := eI) (er_ifle (off := 55) (tg := 80) (x_dk dn_393_0_0_ok 14 rfl) (by decide)) nx_if1))
  (e_Lok (ld_aload_n_0 (x_dk dn_393_0_0_ok 15 rfl))))
  (e_Tok2
  (e_Lok (lk_12_8g ho_393 (x_dk dn_393_0_0_ok 16 rfl)))
  (e_Tok2
  (e_Lok (ld_aload_n_0 (x_dk dn_393_0_0_ok 17 rfl)))
  (e_Lok (lk_12_8g ho_393 (x_dk dn_393_0_0_ok 18 rfl))))))))
  (e_Tok2
  (e_Tok2
  (e_Tok2
  (e_Tok2
  (e_Lok (ld_iload_4 (x_dk dn_393_0_0_ok 19 rfl)))
  (e_Lok (ld_iload_6 (x_dk dn_393_0_0_ok 20 rfl))))
  (e_Tok2
  (e_Lok (sm_iadd (x_dk dn_393_0_0_ok 21 rfl)))
  (e_Lok (sm_iaload (x_dk dn_393_0_0_ok 22 rfl)))))
  (e_Tok2
  (e_Tok2
  (e_Lok (lk_12_774 ho_393 (x_dk dn_393_0_0_ok 23 rfl)))
  (e_Lok (ps_iconst_3 (x_dk dn_393_0_0_ok 24 rfl))))
  (e_Tok2
  (e_Lok (sm_iadd (x_dk dn_393_0_1_ok 0 rfl)))
  (e_Tok2
  (e_Lok (sm_iaload (x_dk dn_393_0_1_ok 1 rfl)))
  (e_Lok (ld_iload_n_3 (x_dk dn_393_0_1_ok 2 rfl)))))))
  (e_Tok2
  (e_Tok2
  (e_Tok2
  (e_Lok (e_st (I := eI) (er_icmpge (off := 31) (tg := 80) (x_dk dn_393_0_1_ok 3 rfl) (by decide)) nx_if2))
  (e_Lok (ld_aload_n_0 (x_dk dn_393_0_1_ok 4 rfl))))
  (e_Tok2
  (e_Lok (lk_12_8g ho_393 (x_dk dn_393_0_1_ok 5 rfl)))
  (e_Tok2
  (e_Lok (ld_iload_4 (x_dk dn_393_0_1_ok 6 rfl)))
  (e_Lok (ld_iload_6 (x_dk dn_393_0_1_ok 7 rfl))))))
  (e_Tok2
  (e_Tok2
  (e_Lok (sm_iadd (x_dk dn_393_0_1_ok 8 rfl)))
  (e_Lok (ps_iconst_1 (x_dk dn_393_0_1_ok 9 rfl))))
  (e_Tok2
  (e_Lok (sm_iadd (x_dk dn_393_0_1_ok 10 rfl)))
  (e_Tok2
  (e_Lok (ld_aload_n_0 (x_dk dn_393_0_1_ok 11 rfl)))
  (e_Lok (lk_12_8g ho_393 (x_dk dn_393_0_1_ok 12 rfl)))))))))
def te_393_38 : Nat → eE := (e_T 97 (e_T 81 (e_T 72 (e_T 69 (e_T 67 (e_L 67 (0, ei_load 4 0 69, 0, 0)) (e_L 69 (0, ei_load 6 0 71, 0, 0))) (e_T 71 (e_L 71 (0, ei_bin eF_add 72, 0, 0)) (e_L 72 (0, ei_ald elay false 73, 0, 0)))) (e_T 74 (e_T 73 (e_L 73 (0, ei_ast elay false 74, 0, 0)) (e_L 74 (0, ei_inc 6 (-1) 77, 0, 0))) (e_T 77 (e_L 77 (0, ei_goto 23, 0, 0)) (e_T 80 (e_L 80 (0, ei_load 0 2 81, 0, 0)) (e_L 81 (0, ei_getf eft elay 12 0 84, 0, 0)))))) (e_T 90 (e_T 86 (e_T 84 (e_L 84 (0, ei_load 4 0 86, 0, 0)) (e_L 86 (0, ei_load 6 0 88, 0, 0))) (e_T 88 (e_L 88 (0, ei_bin eF_add 89, 0, 0)) (e_T 89 (e_L 89 (0, ei_push (0, 1) 90, 0, 0)) (e_L 90 (0, ei_bin eF_add 91, 0, 0))))) (e_T 92 (e_T 91 (e_L 91 (0, ei_load 1 0 92, 0, 0)) (e_L 92 (0, ei_ast elay false 93, 0, 0))) (e_T 93 (e_L 93 (0, ei_load 0 2 94, 0, 0)) (e_T 94 (e_L 94 (0, ei_getf eft elay 12 0 97, 0, 0)) (e_L 97 (0, ei_load 4 0 99, 0, 0))))))) (e_T 112 (e_T 103 (e_T 101 (e_T 99 (e_L 99 (0, ei_load 5 0 101, 0, 0)) (e_L 101 (0, ei_push (0, 1) 102, 0, 0))) (e_T 102 (e_L 102 (0, ei_bin eF_add 103, 0, 0)) (e_L 103 (0, ei_ast elay false 104, 0, 0)))) (e_T 105 (e_T 104 (e_L 104 (0, ei_load 0 2 105, 0, 0)) (e_L 105 (0, ei_getf eft elay 12 0 108, 0, 0))) (e_T 108 (e_L 108 (0, ei_load 1 0 109, 0, 0)) (e_T 109 (e_L 109 (2, e_nof, 392, 1)) (e_L 112 (0, ei_load 2 0 113, 0, 0)))))) (e_T 119 (e_T 114 (e_T 113 (e_L 113 (0, ei_ast elay false 114, 0, 0)) (e_L 114 (0, ei_load 0 2 115, 0, 0))) (e_T 115 (e_L 115 (0, ei_getf eft elay 12 0 118, 0, 0)) (e_T 118 (e_L 118 (0, ei_load 1 0 119, 0, 0)) (e_L 119 (2, e_nof, 392, 1))))) (e_T 123 (e_T 122 (e_L 122 (0, ei_push (0, 3) 123, 0, 0)) (e_L 123 (0, ei_bin eF_add 124, 0, 0))) (e_T 124 (e_L 124 (0, ei_load 3 0 125, 0, 0)) (e_T 125 (e_L 125 (0, ei_ast elay false 126, 0, 0)) (e_L 126 (1, e_nof, 0, 0))))))))
set_option maxRecDepth 20000 in
set_option maxHeartbeats 4000000 in
theorem te_393_38_ok : ∀ pc, e_EOq eft cls elay eI n_393 pc (te_393_38 pc) :=
  (e_Tok2
  (e_Tok2
  (e_Tok2
  (e_Tok2
  (e_Tok2
  (e_Lok (ld_iload_4 (x_dk dn_393_0_1_ok 13 rfl)))
  (e_Lok (ld_iload_6 (x_dk dn_393_0_1_ok 14 rfl))))
  (e_Tok2
  (e_Lok (sm_iadd (x_dk dn_393_0_1_ok 15 rfl)))
  (e_Lok (sm_iaload (x_dk dn_393_0_1_ok 16 rfl)))))
  (e_Tok2
  (e_Tok2
  (e_Lok (sm_iastore (x_dk dn_393_0_1_ok 17 rfl)))
  (e_Lok (e_st (I := eI) (er_iinc (i := 6) (n := (-1)) (x_dk dn_393_0_1_ok 18 rfl) (by decide +kernel) (by decide)) nx_inc)))
  (e_Tok2
  (e_Lok (e_st (I := eI) (er_goto (off := (-54)) (tg := 23) (x_dk dn_393_0_1_ok 19 rfl) (by decide)) nx_goto))
  (e_Tok2
  (e_Lok (ld_aload_n_0 (x_dk dn_393_0_1_ok 20 rfl)))
  (e_Lok (lk_12_8g ho_393 (x_dk dn_393_0_1_ok 21 rfl)))))))
  (e_Tok2
  (e_Tok2
  (e_Tok2
  (e_Lok (ld_iload_4 (x_dk dn_393_0_1_ok 22 rfl)))
  (e_Lok (ld_iload_6 (x_dk dn_393_0_1_ok 23 rfl))))
  (e_Tok2
  (e_Lok (sm_iadd (x_dk dn_393_0_1_ok 24 rfl)))
  (e_Tok2
  (e_Lok (ps_iconst_1 (x_dk dn_393_0_2_ok 0 rfl)))
  (e_Lok (sm_iadd (x_dk dn_393_0_2_ok 1 rfl))))))
  (e_Tok2
  (e_Tok2
  (e_Lok (ld_iload_n_1 (x_dk dn_393_0_2_ok 2 rfl)))
  (e_Lok (sm_iastore (x_dk dn_393_0_2_ok 3 rfl))))
  (e_Tok2
  (e_Lok (ld_aload_n_0 (x_dk dn_393_0_2_ok 4 rfl)))
  (e_Tok2
  (e_Lok (lk_12_8g ho_393 (x_dk dn_393_0_2_ok 5 rfl)))
  (e_Lok (ld_iload_4 (x_dk dn_393_0_2_ok 6 rfl))))))))
  (e_Tok2
  (e_Tok2
  (e_Tok2
  (e_Tok2
  (e_Lok (ld_iload_5 (x_dk dn_393_0_2_ok 7 rfl)))
  (e_Lok (ps_iconst_1 (x_dk dn_393_0_2_ok 8 rfl))))
  (e_Tok2
  (e_Lok (sm_iadd (x_dk dn_393_0_2_ok 9 rfl)))
  (e_Lok (sm_iastore (x_dk dn_393_0_2_ok 10 rfl)))))
  (e_Tok2
  (e_Tok2
  (e_Lok (ld_aload_n_0 (x_dk dn_393_0_2_ok 11 rfl)))
  (e_Lok (lk_12_8g ho_393 (x_dk dn_393_0_2_ok 12 rfl))))
  (e_Tok2
  (e_Lok (ld_iload_n_1 (x_dk dn_393_0_2_ok 13 rfl)))
  (e_Tok2
  (e_Lok (lk_12_774 ho_393 (x_dk dn_393_0_2_ok 14 rfl)))
  (e_Lok (ld_iload_n_2 (x_dk dn_393_0_2_ok 15 rfl)))))))
  (e_Tok2
  (e_Tok2
  (e_Tok2
  (e_Lok (sm_iastore (x_dk dn_393_0_2_ok 16 rfl)))
  (e_Lok (ld_aload_n_0 (x_dk dn_393_0_2_ok 17 rfl))))
  (e_Tok2
  (e_Lok (lk_12_8g ho_393 (x_dk dn_393_0_2_ok 18 rfl)))
  (e_Tok2
  (e_Lok (ld_iload_n_1 (x_dk dn_393_0_2_ok 19 rfl)))
  (e_Lok (lk_12_774 ho_393 (x_dk dn_393_0_2_ok 20 rfl))))))
  (e_Tok2
  (e_Tok2
  (e_Lok (ps_iconst_3 (x_dk dn_393_0_2_ok 21 rfl)))
  (e_Lok (sm_iadd (x_dk dn_393_0_2_ok 22 rfl))))
  (e_Tok2
  (e_Lok (ld_iload_n_3 (x_dk dn_393_0_2_ok 23 rfl)))
  (e_Tok2
  (e_Lok (sm_iastore (x_dk dn_393_0_2_ok 24 rfl)))
  (e_Lok (e_rt (I := eI) (k := 0) ⟨(x_dk dn_393_0_3_ok 0 rfl), rfl⟩))))))))
def te_393 : Nat → eE := (e_T 64 te_393_0 te_393_38)
theorem te_393_ok : ∀ pc, e_EOq eft cls elay eI n_393 pc (te_393 pc) := (e_Tok2 (te_393_0_ok) (te_393_38_ok))
theorem ho_394 : (xm_y n_394).cls = "RobotCellHouseModel" := rfl
def dn_394_0_0 : List (Nat × Instr × Nat) := [(0, .aload_n 0, 1), (1, .getfield 8, 3), (4, .iload_n 1, 1), (5, .invokestatic 774, 3), (8, .bipush 8, 2), (10, .iastore, 1), (11, .aload_n 0, 1), (12, .getfield 8, 3), (15, .iload_n 1, 1), (16, .invokestatic 774, 3), (19, .iconst 1, 1), (20, .iadd, 1), (21, .iload_n 2, 1), (22, .iastore, 1), (23, .aload_n 0, 1), (24, .getfield 8, 3), (27, .iload_n 1, 1), (28, .invokestatic 774, 3), (31, .iconst 2, 1), (32, .iadd, 1), (33, .iload_n 3, 1), (34, .iastore, 1), (35, .aload_n 0, 1), (36, .getfield 8, 3), (39, .iload_n 1, 1)]
set_option maxRecDepth 20000 in
theorem dn_394_0_0_ok : dn_394_0_0.all (fun q => decide (decode (xm_b n_394) q.1 = .ok (q.2.1, q.2.2))) = true := xa_g_ok (by decide +kernel)
def dn_394_0_1 : List (Nat × Instr × Nat) := [(40, .invokestatic 774, 3), (43, .iconst 3, 1), (44, .iadd, 1), (45, .iconst 0, 1), (46, .iastore, 1), (47, .return_, 1)]
set_option maxRecDepth 20000 in
theorem dn_394_0_1_ok : dn_394_0_1.all (fun q => decide (decode (xm_b n_394) q.1 = .ok (q.2.1, q.2.2))) = true := xa_g_ok (by decide +kernel)
def te_394_0 : Nat → eE := (e_T 23 (e_T 11 (e_T 4 (e_T 0 (e_L 0 (0, ei_load 0 2 1, 0, 0)) (e_T 1 (e_L 1 (0, ei_getf eft elay 12 0 4, 0, 0)) (e_L 4 (0, ei_load 1 0 5, 0, 0)))) (e_T 8 (e_T 5 (e_L 5 (2, e_nof, 392, 1)) (e_L 8 (0, ei_push (0, 8) 10, 0, 0))) (e_T 10 (e_L 10 (0, ei_ast elay false 11, 0, 0)) (e_L 11 (0, ei_load 0 2 12, 0, 0))))) (e_T 19 (e_T 15 (e_T 12 (e_L 12 (0, ei_getf eft elay 12 0 15, 0, 0)) (e_L 15 (0, ei_load 1 0 16, 0, 0))) (e_T 16 (e_L 16 (2, e_nof, 392, 1)) (e_L 19 (0, ei_push (0, 1) 20, 0, 0)))) (e_T 21 (e_T 20 (e_L 20 (0, ei_bin eF_add 21, 0, 0)) (e_L 21 (0, ei_load 2 0 22, 0, 0))) (e_T 22 (e_L 22 (0, ei_ast elay false 23, 0, 0)) (e_L 23 (0, ei_load 0 2 24, 0, 0)))))) (e_T 35 (e_T 31 (e_T 27 (e_T 24 (e_L 24 (0, ei_getf eft elay 12 0 27, 0, 0)) (e_L 27 (0, ei_load 1 0 28, 0, 0))) (e_T 28 (e_L 28 (2, e_nof, 392, 1)) (e_L 31 (0, ei_push (0, 2) 32, 0, 0)))) (e_T 33 (e_T 32 (e_L 32 (0, ei_bin eF_add 33, 0, 0)) (e_L 33 (0, ei_load 3 0 34, 0, 0))) (e_T 34 (e_L 34 (0, ei_ast elay false 35, 0, 0)) (e_L 35 (0, ei_load 0 2 36, 0, 0))))) (e_T 43 (e_T 39 (e_T 36 (e_L 36 (0, ei_getf eft elay 12 0 39, 0, 0)) (e_L 39 (0, ei_load 1 0 40, 0, 0))) (e_T 40 (e_L 40 (2, e_nof, 392, 1)) (e_L 43 (0, ei_push (0, 3) 44, 0, 0)))) (e_T 45 (e_T 44 (e_L 44 (0, ei_bin eF_add 45, 0, 0)) (e_L 45 (0, ei_push (0, 0) 46, 0, 0))) (e_T 46 (e_L 46 (0, ei_ast elay false 47, 0, 0)) (e_L 47 (1, e_nof, 0, 0)))))))
set_option maxRecDepth 20000 in
set_option maxHeartbeats 4000000 in
theorem te_394_0_ok : ∀ pc, e_EOq eft cls elay eI n_394 pc (te_394_0 pc) :=
  (e_Tok2
  (e_Tok2
  (e_Tok2
  (e_Tok2
  (e_Lok (ld_aload_n_0 (x_dk dn_394_0_0_ok 0 rfl)))
  (e_Tok2
  (e_Lok (lk_12_8g ho_394 (x_dk dn_394_0_0_ok 1 rfl)))
  (e_Lok (ld_iload_n_1 (x_dk dn_394_0_0_ok 2 rfl)))))
  (e_Tok2
  (e_Tok2
  (e_Lok (lk_12_774 ho_394 (x_dk dn_394_0_0_ok 3 rfl)))
  (e_Lok (ps_bipush_8 (x_dk dn_394_0_0_ok 4 rfl))))
  (e_Tok2
  (e_Lok (sm_iastore (x_dk dn_394_0_0_ok 5 rfl)))
  (e_Lok (ld_aload_n_0 (x_dk dn_394_0_0_ok 6 rfl))))))
  (e_Tok2
  (e_Tok2
  (e_Tok2
  (e_Lok (lk_12_8g ho_394 (x_dk dn_394_0_0_ok 7 rfl)))
  (e_Lok (ld_iload_n_1 (x_dk dn_394_0_0_ok 8 rfl))))
  (e_Tok2
  (e_Lok (lk_12_774 ho_394 (x_dk dn_394_0_0_ok 9 rfl)))
  (e_Lok (ps_iconst_1 (x_dk dn_394_0_0_ok 10 rfl)))))
  (e_Tok2
  (e_Tok2
  (e_Lok (sm_iadd (x_dk dn_394_0_0_ok 11 rfl)))
  (e_Lok (ld_iload_n_2 (x_dk dn_394_0_0_ok 12 rfl))))
  (e_Tok2
  (e_Lok (sm_iastore (x_dk dn_394_0_0_ok 13 rfl)))
  (e_Lok (ld_aload_n_0 (x_dk dn_394_0_0_ok 14 rfl)))))))
  (e_Tok2
  (e_Tok2
  (e_Tok2
  (e_Tok2
  (e_Lok (lk_12_8g ho_394 (x_dk dn_394_0_0_ok 15 rfl)))
  (e_Lok (ld_iload_n_1 (x_dk dn_394_0_0_ok 16 rfl))))
  (e_Tok2
  (e_Lok (lk_12_774 ho_394 (x_dk dn_394_0_0_ok 17 rfl)))
  (e_Lok (ps_iconst_2 (x_dk dn_394_0_0_ok 18 rfl)))))
  (e_Tok2
  (e_Tok2
  (e_Lok (sm_iadd (x_dk dn_394_0_0_ok 19 rfl)))
  (e_Lok (ld_iload_n_3 (x_dk dn_394_0_0_ok 20 rfl))))
  (e_Tok2
  (e_Lok (sm_iastore (x_dk dn_394_0_0_ok 21 rfl)))
  (e_Lok (ld_aload_n_0 (x_dk dn_394_0_0_ok 22 rfl))))))
  (e_Tok2
  (e_Tok2
  (e_Tok2
  (e_Lok (lk_12_8g ho_394 (x_dk dn_394_0_0_ok 23 rfl)))
  (e_Lok (ld_iload_n_1 (x_dk dn_394_0_0_ok 24 rfl))))
  (e_Tok2
  (e_Lok (lk_12_774 ho_394 (x_dk dn_394_0_1_ok 0 rfl)))
  (e_Lok (ps_iconst_3 (x_dk dn_394_0_1_ok 1 rfl)))))
  (e_Tok2
  (e_Tok2
  (e_Lok (sm_iadd (x_dk dn_394_0_1_ok 2 rfl)))
  (e_Lok (ps_iconst_0 (x_dk dn_394_0_1_ok 3 rfl))))
  (e_Tok2
  (e_Lok (sm_iastore (x_dk dn_394_0_1_ok 4 rfl)))
  (e_Lok (e_rt (I := eI) (k := 0) ⟨(x_dk dn_394_0_1_ok 5 rfl), rfl⟩)))))))
def te_394 : Nat → eE := te_394_0
theorem te_394_ok : ∀ pc, e_EOq eft cls elay eI n_394 pc (te_394 pc) := te_394_0_ok
theorem ho_395 : (xm_y n_395).cls = "RobotCellHouseModel" := rfl
def dn_395_0_0 : List (Nat × Instr × Nat) := [(0, .aload_n 0, 1), (1, .getfield 8, 3), (4, .iload_n 1, 1), (5, .invokestatic 774, 3), (8, .iaload, 1), (9, .istore_n 3, 1), (10, .iload_n 3, 1), (11, .bipush 8, 2), (13, .if_icmp .ne 17, 3), (16, .aload_n 0, 1), (17, .getfield 8, 3), (20, .iload_n 1, 1), (21, .invokestatic 774, 3), (24, .iconst 1, 1), (25, .iadd, 1), (26, .iload_n 2, 1), (27, .iadd, 1), (28, .iaload, 1), (29, .ireturn, 1), (30, .iload_n 3, 1), (31, .iconst 4, 1), (32, .if_icmp .lt 59, 3), (35, .aload_n 0, 1), (36, .iload_n 3, 1), (37, .iconst 4, 1)]
set_option maxRecDepth 20000 in
theorem dn_395_0_0_ok : dn_395_0_0.all (fun q => decide (decode (xm_b n_395) q.1 = .ok (q.2.1, q.2.2))) = true := xa_g_ok (by decide +kernel)
def dn_395_0_1 : List (Nat × Instr × Nat) := [(38, .isub, 1), (39, .iconst 0, 1), (40, .invokevirtual 397, 3), (43, .iload_n 2, 1), (44, .ifCond .ne 26, 3), (47, .aload_n 0, 1), (48, .getfield 149, 3), (51, .bipush 7, 2), (53, .iload_n 3, 1), (54, .iconst 4, 1), (55, .isub, 1), (56, .imul, 1), (57, .aload_n 0, 1), (58, .getfield 43, 3), (61, .iload_n 3, 1), (62, .iconst 4, 1), (63, .isub, 1), (64, .iaload, 1), (65, .iadd, 1), (66, .iaload, 1), (67, .goto 23, 3), (70, .aload_n 0, 1), (71, .getfield 152, 3), (74, .bipush 7, 2), (76, .iload_n 3, 1)]
set_option maxRecDepth 20000 in
theorem dn_395_0_1_ok : dn_395_0_1.all (fun q => decide (decode (xm_b n_395) q.1 = .ok (q.2.1, q.2.2))) = true := xa_g_ok (by decide +kernel)
def dn_395_0_2 : List (Nat × Instr × Nat) := [(77, .iconst 4, 1), (78, .isub, 1), (79, .imul, 1), (80, .aload_n 0, 1), (81, .getfield 43, 3), (84, .iload_n 3, 1), (85, .iconst 4, 1), (86, .isub, 1), (87, .iaload, 1), (88, .iadd, 1), (89, .iaload, 1), (90, .ireturn, 1), (91, .aload_n 0, 1), (92, .getfield 92, 3), (95, .iload_n 3, 1), (96, .iaload, 1), (97, .iconst 2, 1), (98, .irem, 1), (99, .iload_n 2, 1), (100, .if_icmp .eq 7, 3), (103, .iconst 0, 1), (104, .goto 39, 3), (107, .aload_n 0, 1), (108, .getfield 92, 3), (111, .iload_n 3, 1)]
set_option maxRecDepth 20000 in
theorem dn_395_0_2_ok : dn_395_0_2.all (fun q => decide (decode (xm_b n_395) q.1 = .ok (q.2.1, q.2.2))) = true := xa_g_ok (by decide +kernel)
def dn_395_0_3 : List (Nat × Instr × Nat) := [(112, .iaload, 1), (113, .iconst 2, 1), (114, .if_icmp .ge 17, 3), (117, .aload_n 0, 1), (118, .getfield 8, 3), (121, .iload_n 1, 1), (122, .invokestatic 774, 3), (125, .iconst 3, 1), (126, .iadd, 1), (127, .iaload, 1), (128, .goto 15, 3), (131, .aload_n 0, 1), (132, .getfield 8, 3), (135, .iload_n 1, 1), (136, .invokestatic 774, 3), (139, .iconst 3, 1), (140, .iadd, 1), (141, .iaload, 1), (142, .ineg, 1), (143, .istore 4, 2), (145, .iload 4, 2), (147, .iload_n 2, 1), (148, .ifCond .ne 12, 3), (151, .aload_n 0, 1), (152, .getfield 86, 3)]
set_option maxRecDepth 20000 in
theorem dn_395_0_3_ok : dn_395_0_3.all (fun q => decide (decode (xm_b n_395) q.1 = .ok (q.2.1, q.2.2))) = true := xa_g_ok (by decide +kernel)
def dn_395_1_0 : List (Nat × Instr × Nat) := [(155, .iload_n 3, 1), (156, .iaload, 1), (157, .goto 9, 3), (160, .aload_n 0, 1), (161, .getfield 89, 3), (164, .iload_n 3, 1), (165, .iaload, 1), (166, .iadd, 1), (167, .ireturn, 1)]
set_option maxRecDepth 20000 in
theorem dn_395_1_0_ok : dn_395_1_0.all (fun q => decide (decode (xm_b n_395) q.1 = .ok (q.2.1, q.2.2))) = true := xa_g_ok (by decide +kernel)
def te_395_0 : Nat → eE := (e_T 21 (e_T 9 (e_T 4 (e_T 0 (e_L 0 (0, ei_load 0 2 1, 0, 0)) (e_T 1 (e_L 1 (0, ei_getf eft elay 12 0 4, 0, 0)) (e_L 4 (0, ei_load 1 0 5, 0, 0)))) (e_T 5 (e_L 5 (2, e_nof, 392, 1)) (e_T 8 (e_L 8 (0, ei_ald elay false 9, 0, 0)) (e_L 9 (0, ei_stor 3 0 10, 0, 0))))) (e_T 13 (e_T 10 (e_L 10 (0, ei_load 3 0 11, 0, 0)) (e_T 11 (e_L 11 (0, ei_push (0, 8) 13, 0, 0)) (e_L 13 (0, ei_if2 1 30 16, 0, 0)))) (e_T 17 (e_T 16 (e_L 16 (0, ei_load 0 2 17, 0, 0)) (e_L 17 (0, ei_getf eft elay 12 0 20, 0, 0))) (e_T 20 (e_L 20 (0, ei_load 1 0 21, 0, 0)) (e_L 21 (2, e_nof, 392, 1)))))) (e_T 30 (e_T 26 (e_T 24 (e_L 24 (0, ei_push (0, 1) 25, 0, 0)) (e_T 25 (e_L 25 (0, ei_bin eF_add 26, 0, 0)) (e_L 26 (0, ei_load 2 0 27, 0, 0)))) (e_T 28 (e_T 27 (e_L 27 (0, ei_bin eF_add 28, 0, 0)) (e_L 28 (0, ei_ald elay false 29, 0, 0))) (e_T 29 (e_L 29 (1, e_nof, 1, 0)) (e_L 30 (0, ei_load 3 0 31, 0, 0))))) (e_T 35 (e_T 31 (e_L 31 (0, ei_push (0, 4) 32, 0, 0)) (e_T 32 (e_L 32 (0, ei_if2 2 91 35, 0, 0)) (e_L 35 (0, ei_load 0 2 36, 0, 0)))) (e_T 37 (e_T 36 (e_L 36 (0, ei_load 3 0 37, 0, 0)) (e_L 37 (0, ei_push (0, 4) 38, 0, 0))) (e_T 38 (e_L 38 (0, ei_bin eF_sub 39, 0, 0)) (e_L 39 (0, ei_push (0, 0) 40, 0, 0)))))))
set_option maxRecDepth 20000 in
set_option maxHeartbeats 4000000 in
theorem te_395_0_ok : ∀ pc, e_EOq eft cls elay eI n_395 pc (te_395_0 pc) :=
  (e_Tok2
  (e_Tok2
  (e_Tok2
  (e_Tok2
  (e_Lok (ld_aload_n_0 (x_dk dn_395_0_0_ok 0 rfl)))
  (e_Tok2
  (e_Lok (lk_12_8g ho_395 (x_dk dn_395_0_0_ok 1 rfl)))
  (e_Lok (ld_iload_n_1 (x_dk dn_395_0_0_ok 2 rfl)))))
  (e_Tok2
  (e_Lok (lk_12_774 ho_395 (x_dk dn_395_0_0_ok 3 rfl)))
  (e_Tok2
  (e_Lok (sm_iaload (x_dk dn_395_0_0_ok 4 rfl)))
  (e_Lok (e_st (I := eI) (er_istore_n (i := 3) (x_dk dn_395_0_0_ok 5 rfl) (by decide +kernel)) nx_stor)))))
  (e_Tok2
  (e_Tok2
  (e_Lok (ld_iload_n_3 (x_dk dn_395_0_0_ok 6 rfl)))
  (e_Tok2
  (e_Lok (ps_bipush_8 (x_dk dn_395_0_0_ok 7 rfl)))
  (e_Lok (e_st (I := eI) (er_icmpne (off := 17) (tg := 30) (x_dk dn_395_0_0_ok 8 rfl) (by decide)) nx_if2))))
  (e_Tok2
  (e_Tok2
  (e_Lok (ld_aload_n_0 (x_dk dn_395_0_0_ok 9 rfl)))
  (e_Lok (lk_12_8g ho_395 (x_dk dn_395_0_0_ok 10 rfl))))
  (e_Tok2
  (e_Lok (ld_iload_n_1 (x_dk dn_395_0_0_ok 11 rfl)))
  (e_Lok (lk_12_774 ho_395 (x_dk dn_395_0_0_ok 12 rfl)))))))
  (e_Tok2
  (e_Tok2
  (e_Tok2
  (e_Lok (ps_iconst_1 (x_dk dn_395_0_0_ok 13 rfl)))
  (e_Tok2
  (e_Lok (sm_iadd (x_dk dn_395_0_0_ok 14 rfl)))
  (e_Lok (ld_iload_n_2 (x_dk dn_395_0_0_ok 15 rfl)))))
  (e_Tok2
  (e_Tok2
  (e_Lok (sm_iadd (x_dk dn_395_0_0_ok 16 rfl)))
  (e_Lok (sm_iaload (x_dk dn_395_0_0_ok 17 rfl))))
  (e_Tok2
  (e_Lok (e_rt (I := eI) (k := 1) ⟨(x_dk dn_395_0_0_ok 18 rfl), rfl⟩))
  (e_Lok (ld_iload_n_3 (x_dk dn_395_0_0_ok 19 rfl))))))
  (e_Tok2
  (e_Tok2
  (e_Lok (ps_iconst_4 (x_dk dn_395_0_0_ok 20 rfl)))
  (e_Tok2
  (e_Lok (e_st (I := eI) (er_icmplt (off := 59) (tg := 91) (x_dk dn_395_0_0_ok 21 rfl) (by decide)) nx_if2))
  (e_Lok (ld_aload_n_0 (x_dk dn_395_0_0_ok 22 rfl)))))
  (e_Tok2
  (e_Tok2
  (e_Lok (ld_iload_n_3 (x_dk dn_395_0_0_ok 23 rfl)))
  (e_Lok (ps_iconst_4 (x_dk dn_395_0_0_ok 24 rfl))))
  (e_Tok2
  (e_Lok (sm_isub (x_dk dn_395_0_1_ok 0 rfl)))
  (e_Lok (ps_iconst_0 (x_dk dn_395_0_1_ok 1 rfl))))))))
def te_395_27 : Nat → eE := (e_T 61 (e_T 51 (e_T 44 (e_T 40 (e_L 40 (2, e_nof, 301, 3)) (e_T 43 (e_L 43 (0, ei_load 2 0 44, 0, 0)) (e_L 44 (0, ei_if1 1 70 47, 0, 0)))) (e_T 47 (e_L 47 (0, ei_load 0 2 48, 0, 0)) (e_T 48 (e_L 48 (0, ei_getf eft elay 12 55 51, 0, 0)) (e_L 51 (0, ei_push (0, 7) 53, 0, 0))))) (e_T 55 (e_T 53 (e_L 53 (0, ei_load 3 0 54, 0, 0)) (e_T 54 (e_L 54 (0, ei_push (0, 4) 55, 0, 0)) (e_L 55 (0, ei_bin eF_sub 56, 0, 0)))) (e_T 57 (e_T 56 (e_L 56 (0, ei_bin eF_mul 57, 0, 0)) (e_L 57 (0, ei_load 0 2 58, 0, 0))) (e_T 58 (e_L 58 (0, ei_getf eft elay 12 15 61, 0, 0)) (e_L 61 (0, ei_load 3 0 62, 0, 0)))))) (e_T 70 (e_T 64 (e_T 62 (e_L 62 (0, ei_push (0, 4) 63, 0, 0)) (e_T 63 (e_L 63 (0, ei_bin eF_sub 64, 0, 0)) (e_L 64 (0, ei_ald elay false 65, 0, 0)))) (e_T 66 (e_T 65 (e_L 65 (0, ei_bin eF_add 66, 0, 0)) (e_L 66 (0, ei_ald elay false 67, 0, 0))) (e_T 67 (e_L 67 (0, ei_goto 90, 0, 0)) (e_L 70 (0, ei_load 0 2 71, 0, 0))))) (e_T 76 (e_T 71 (e_L 71 (0, ei_getf eft elay 12 56 74, 0, 0)) (e_T 74 (e_L 74 (0, ei_push (0, 7) 76, 0, 0)) (e_L 76 (0, ei_load 3 0 77, 0, 0)))) (e_T 78 (e_T 77 (e_L 77 (0, ei_push (0, 4) 78, 0, 0)) (e_L 78 (0, ei_bin eF_sub 79, 0, 0))) (e_T 79 (e_L 79 (0, ei_bin eF_mul 80, 0, 0)) (e_L 80 (0, ei_load 0 2 81, 0, 0)))))))
set_option maxRecDepth 20000 in
set_option maxHeartbeats 4000000 in
theorem te_395_27_ok : ∀ pc, e_EOq eft cls elay eI n_395 pc (te_395_27 pc) :=
  (e_Tok2
  (e_Tok2
  (e_Tok2
  (e_Tok2
  (e_Lok (lk_12_397 ho_395 (x_dk dn_395_0_1_ok 2 rfl)))
  (e_Tok2
  (e_Lok (ld_iload_n_2 (x_dk dn_395_0_1_ok 3 rfl)))
  (e_Lok (e_st (I := eI) (er_ifne (off := 26) (tg := 70) (x_dk dn_395_0_1_ok 4 rfl) (by decide)) nx_if1))))
  (e_Tok2
  (e_Lok (ld_aload_n_0 (x_dk dn_395_0_1_ok 5 rfl)))
  (e_Tok2
  (e_Lok (lk_12_149g ho_395 (x_dk dn_395_0_1_ok 6 rfl)))
  (e_Lok (ps_bipush_7 (x_dk dn_395_0_1_ok 7 rfl))))))
  (e_Tok2
  (e_Tok2
  (e_Lok (ld_iload_n_3 (x_dk dn_395_0_1_ok 8 rfl)))
  (e_Tok2
  (e_Lok (ps_iconst_4 (x_dk dn_395_0_1_ok 9 rfl)))
  (e_Lok (sm_isub (x_dk dn_395_0_1_ok 10 rfl)))))
  (e_Tok2
  (e_Tok2
  (e_Lok (sm_imul (x_dk dn_395_0_1_ok 11 rfl)))
  (e_Lok (ld_aload_n_0 (x_dk dn_395_0_1_ok 12 rfl))))
  (e_Tok2
  (e_Lok (lk_12_43g ho_395 (x_dk dn_395_0_1_ok 13 rfl)))
  (e_Lok (ld_iload_n_3 (x_dk dn_395_0_1_ok 14 rfl)))))))
  (e_Tok2
  (e_Tok2
  (e_Tok2
  (e_Lok (ps_iconst_4 (x_dk dn_395_0_1_ok 15 rfl)))
  (e_Tok2
  (e_Lok (sm_isub (x_dk dn_395_0_1_ok 16 rfl)))
  (e_Lok (sm_iaload (x_dk dn_395_0_1_ok 17 rfl)))))
  (e_Tok2
  (e_Tok2
  (e_Lok (sm_iadd (x_dk dn_395_0_1_ok 18 rfl)))
  (e_Lok (sm_iaload (x_dk dn_395_0_1_ok 19 rfl))))
  (e_Tok2
  (e_Lok (e_st (I := eI) (er_goto (off := 23) (tg := 90) (x_dk dn_395_0_1_ok 20 rfl) (by decide)) nx_goto))
  (e_Lok (ld_aload_n_0 (x_dk dn_395_0_1_ok 21 rfl))))))
  (e_Tok2
  (e_Tok2
  (e_Lok (lk_12_152g ho_395 (x_dk dn_395_0_1_ok 22 rfl)))
  (e_Tok2
  (e_Lok (ps_bipush_7 (x_dk dn_395_0_1_ok 23 rfl)))
  (e_Lok (ld_iload_n_3 (x_dk dn_395_0_1_ok 24 rfl)))))
  (e_Tok2
  (e_Tok2
  (e_Lok (ps_iconst_4 (x_dk dn_395_0_2_ok 0 rfl)))
  (e_Lok (sm_isub (x_dk dn_395_0_2_ok 1 rfl))))
  (e_Tok2
  (e_Lok (sm_imul (x_dk dn_395_0_2_ok 2 rfl)))
  (e_Lok (ld_aload_n_0 (x_dk dn_395_0_2_ok 3 rfl))))))))
def te_395_54 : Nat → eE := (e_T 97 (e_T 88 (e_T 85 (e_T 81 (e_L 81 (0, ei_getf eft elay 12 15 84, 0, 0)) (e_T 84 (e_L 84 (0, ei_load 3 0 85, 0, 0)) (e_L 85 (0, ei_push (0, 4) 86, 0, 0)))) (e_T 86 (e_L 86 (0, ei_bin eF_sub 87, 0, 0)) (e_T 87 (e_L 87 (0, ei_ald elay false 88, 0, 0)) (e_L 88 (0, ei_bin eF_add 89, 0, 0))))) (e_T 91 (e_T 89 (e_L 89 (0, ei_ald elay false 90, 0, 0)) (e_T 90 (e_L 90 (1, e_nof, 1, 0)) (e_L 91 (0, ei_load 0 2 92, 0, 0)))) (e_T 95 (e_T 92 (e_L 92 (0, ei_getf eft elay 12 33 95, 0, 0)) (e_L 95 (0, ei_load 3 0 96, 0, 0))) (e_T 96 (e_L 96 (0, ei_ald elay false 97, 0, 0)) (e_L 97 (0, ei_push (0, 2) 98, 0, 0)))))) (e_T 108 (e_T 100 (e_T 98 (e_L 98 (0, ei_bin eF_rem 99, 0, 0)) (e_T 99 (e_L 99 (0, ei_load 2 0 100, 0, 0)) (e_L 100 (0, ei_if2 0 107 103, 0, 0)))) (e_T 104 (e_T 103 (e_L 103 (0, ei_push (0, 0) 104, 0, 0)) (e_L 104 (0, ei_goto 143, 0, 0))) (e_T 107 (e_L 107 (0, ei_load 0 2 108, 0, 0)) (e_L 108 (0, ei_getf eft elay 12 33 111, 0, 0))))) (e_T 113 (e_T 111 (e_L 111 (0, ei_load 3 0 112, 0, 0)) (e_T 112 (e_L 112 (0, ei_ald elay false 113, 0, 0)) (e_L 113 (0, ei_push (0, 2) 114, 0, 0)))) (e_T 117 (e_T 114 (e_L 114 (0, ei_if2 3 131 117, 0, 0)) (e_L 117 (0, ei_load 0 2 118, 0, 0))) (e_T 118 (e_L 118 (0, ei_getf eft elay 12 0 121, 0, 0)) (e_L 121 (0, ei_load 1 0 122, 0, 0)))))))
set_option maxRecDepth 20000 in
set_option maxHeartbeats 4000000 in
theorem te_395_54_ok : ∀ pc, e_EOq eft cls elay eI n_395 pc (te_395_54 pc) :=
  (e_Tok2
  (e_Tok2
  (e_Tok2
  (e_Tok2
  (e_Lok (lk_12_43g ho_395 (x_dk dn_395_0_2_ok 4 rfl)))
  (e_Tok2
  (e_Lok (ld_iload_n_3 (x_dk dn_395_0_2_ok 5 rfl)))
  (e_Lok (ps_iconst_4 (x_dk dn_395_0_2_ok 6 rfl)))))
  (e_Tok2
  (e_Lok (sm_isub (x_dk dn_395_0_2_ok 7 rfl)))
  (e_Tok2
  (e_Lok (sm_iaload (x_dk dn_395_0_2_ok 8 rfl)))
  (e_Lok (sm_iadd (x_dk dn_395_0_2_ok 9 rfl))))))
  (e_Tok2
  (e_Tok2
  (e_Lok (sm_iaload (x_dk dn_395_0_2_ok 10 rfl)))
  (e_Tok2
  (e_Lok (e_rt (I := eI) (k := 1) ⟨(x_dk dn_395_0_2_ok 11 rfl), rfl⟩))
  (e_Lok (ld_aload_n_0 (x_dk dn_395_0_2_ok 12 rfl)))))
  (e_Tok2
  (e_Tok2
  (e_Lok (lk_12_92g ho_395 (x_dk dn_395_0_2_ok 13 rfl)))
  (e_Lok (ld_iload_n_3 (x_dk dn_395_0_2_ok 14 rfl))))
  (e_Tok2
  (e_Lok (sm_iaload (x_dk dn_395_0_2_ok 15 rfl)))
  (e_Lok (ps_iconst_2 (x_dk dn_395_0_2_ok 16 rfl)))))))
  (e_Tok2
  (e_Tok2
  (e_Tok2
  (e_Lok (e_st (I := eI) (er_irem (x_dk dn_395_0_2_ok 17 rfl)) nx_bin))
  (e_Tok2
  (e_Lok (ld_iload_n_2 (x_dk dn_395_0_2_ok 18 rfl)))
  (e_Lok (e_st (I := eI) (er_icmpeq (off := 7) (tg := 107) (x_dk dn_395_0_2_ok 19 rfl) (by decide)) nx_if2))))
  (e_Tok2
  (e_Tok2
  (e_Lok (ps_iconst_0 (x_dk dn_395_0_2_ok 20 rfl)))
  (e_Lok (e_st (I := eI) (er_goto (off := 39) (tg := 143) (x_dk dn_395_0_2_ok 21 rfl) (by decide)) nx_goto)))
  (e_Tok2
  (e_Lok (ld_aload_n_0 (x_dk dn_395_0_2_ok 22 rfl)))
  (e_Lok (lk_12_92g ho_395 (x_dk dn_395_0_2_ok 23 rfl))))))
  (e_Tok2
  (e_Tok2
  (e_Lok (ld_iload_n_3 (x_dk dn_395_0_2_ok 24 rfl)))
  (e_Tok2
  (e_Lok (sm_iaload (x_dk dn_395_0_3_ok 0 rfl)))
  (e_Lok (ps_iconst_2 (x_dk dn_395_0_3_ok 1 rfl)))))
  (e_Tok2
  (e_Tok2
  (e_Lok (e_st (I := eI) (er_icmpge (off := 17) (tg := 131) (x_dk dn_395_0_3_ok 2 rfl) (by decide)) nx_if2))
  (e_Lok (ld_aload_n_0 (x_dk dn_395_0_3_ok 3 rfl))))
  (e_Tok2
  (e_Lok (lk_12_8g ho_395 (x_dk dn_395_0_3_ok 4 rfl)))
  (e_Lok (ld_iload_n_1 (x_dk dn_395_0_3_ok 5 rfl))))))))
def te_395_81 : Nat → eE := (e_T 143 (e_T 132 (e_T 126 (e_T 122 (e_L 122 (2, e_nof, 392, 1)) (e_T 125 (e_L 125 (0, ei_push (0, 3) 126, 0, 0)) (e_L 126 (0, ei_bin eF_add 127, 0, 0)))) (e_T 128 (e_T 127 (e_L 127 (0, ei_ald elay false 128, 0, 0)) (e_L 128 (0, ei_goto 143, 0, 0))) (e_T 131 (e_L 131 (0, ei_load 0 2 132, 0, 0)) (e_L 132 (0, ei_getf eft elay 12 0 135, 0, 0))))) (e_T 139 (e_T 135 (e_L 135 (0, ei_load 1 0 136, 0, 0)) (e_T 136 (e_L 136 (2, e_nof, 392, 1)) (e_L 139 (0, ei_push (0, 3) 140, 0, 0)))) (e_T 141 (e_T 140 (e_L 140 (0, ei_bin eF_add 141, 0, 0)) (e_L 141 (0, ei_ald elay false 142, 0, 0))) (e_T 142 (e_L 142 (0, ei_un (fun x => (0, e32 (-x))) 143, 0, 0)) (e_L 143 (0, ei_stor 4 0 145, 0, 0)))))) (e_T 156 (e_T 148 (e_T 145 (e_L 145 (0, ei_load 4 0 147, 0, 0)) (e_T 147 (e_L 147 (0, ei_load 2 0 148, 0, 0)) (e_L 148 (0, ei_if1 1 160 151, 0, 0)))) (e_T 152 (e_T 151 (e_L 151 (0, ei_load 0 2 152, 0, 0)) (e_L 152 (0, ei_getf eft elay 12 31 155, 0, 0))) (e_T 155 (e_L 155 (0, ei_load 3 0 156, 0, 0)) (e_L 156 (0, ei_ald elay false 157, 0, 0))))) (e_T 161 (e_T 157 (e_L 157 (0, ei_goto 166, 0, 0)) (e_T 160 (e_L 160 (0, ei_load 0 2 161, 0, 0)) (e_L 161 (0, ei_getf eft elay 12 32 164, 0, 0)))) (e_T 165 (e_T 164 (e_L 164 (0, ei_load 3 0 165, 0, 0)) (e_L 165 (0, ei_ald elay false 166, 0, 0))) (e_T 166 (e_L 166 (0, ei_bin eF_add 167, 0, 0)) (e_L 167 (1, e_nof, 1, 0)))))))
set_option maxRecDepth 20000 in
set_option maxHeartbeats 4000000 in
theorem te_395_81_ok : ∀ pc, e_EOq eft cls elay eI n_395 pc (te_395_81 pc) :=
  (e_Tok2
  (e_Tok2
  (e_Tok2
  (e_Tok2
  (e_Lok (lk_12_774 ho_395 (x_dk dn_395_0_3_ok 6 rfl)))
  (e_Tok2
  (e_Lok (ps_iconst_3 (x_dk dn_395_0_3_ok 7 rfl)))
  (e_Lok (sm_iadd (x_dk dn_395_0_3_ok 8 rfl)))))
  (e_Tok2
  (e_Tok2
  (e_Lok (sm_iaload (x_dk dn_395_0_3_ok 9 rfl)))
  (e_Lok (e_st (I := eI) (er_goto (off := 15) (tg := 143) (x_dk dn_395_0_3_ok 10 rfl) (by decide)) nx_goto)))
  (e_Tok2
  (e_Lok (ld_aload_n_0 (x_dk dn_395_0_3_ok 11 rfl)))
  (e_Lok (lk_12_8g ho_395 (x_dk dn_395_0_3_ok 12 rfl))))))
  (e_Tok2
  (e_Tok2
  (e_Lok (ld_iload_n_1 (x_dk dn_395_0_3_ok 13 rfl)))
  (e_Tok2
  (e_Lok (lk_12_774 ho_395 (x_dk dn_395_0_3_ok 14 rfl)))
  (e_Lok (ps_iconst_3 (x_dk dn_395_0_3_ok 15 rfl)))))
  (e_Tok2
  (e_Tok2
  (e_Lok (sm_iadd (x_dk dn_395_0_3_ok 16 rfl)))
  (e_Lok (sm_iaload (x_dk dn_395_0_3_ok 17 rfl))))
  (e_Tok2
  (e_Lok (e_st (I := eI) (er_ineg (x_dk dn_395_0_3_ok 18 rfl)) (nx_un (fun _ => rfl))))
  (e_Lok (e_st (I := eI) (er_istore (i := 4) (x_dk dn_395_0_3_ok 19 rfl) (by decide +kernel)) nx_stor))))))
  (e_Tok2
  (e_Tok2
  (e_Tok2
  (e_Lok (ld_iload_4 (x_dk dn_395_0_3_ok 20 rfl)))
  (e_Tok2
  (e_Lok (ld_iload_n_2 (x_dk dn_395_0_3_ok 21 rfl)))
  (e_Lok (e_st (I := eI) (er_ifne (off := 12) (tg := 160) (x_dk dn_395_0_3_ok 22 rfl) (by decide)) nx_if1))))
  (e_Tok2
  (e_Tok2
  (e_Lok (ld_aload_n_0 (x_dk dn_395_0_3_ok 23 rfl)))
  (e_Lok (lk_12_86g ho_395 (x_dk dn_395_0_3_ok 24 rfl))))
  (e_Tok2
  (e_Lok (ld_iload_n_3 (x_dk dn_395_1_0_ok 0 rfl)))
  (e_Lok (sm_iaload (x_dk dn_395_1_0_ok 1 rfl))))))
  (e_Tok2
  (e_Tok2
  (e_Lok (e_st (I := eI) (er_goto (off := 9) (tg := 166) (x_dk dn_395_1_0_ok 2 rfl) (by decide)) nx_goto))
  (e_Tok2
  (e_Lok (ld_aload_n_0 (x_dk dn_395_1_0_ok 3 rfl)))
  (e_Lok (lk_12_89g ho_395 (x_dk dn_395_1_0_ok 4 rfl)))))
  (e_Tok2
  (e_Tok2
  (e_Lok (ld_iload_n_3 (x_dk dn_395_1_0_ok 5 rfl)))
  (e_Lok (sm_iaload (x_dk dn_395_1_0_ok 6 rfl))))
  (e_Tok2
  (e_Lok (sm_iadd (x_dk dn_395_1_0_ok 7 rfl)))
  (e_Lok (e_rt (I := eI) (k := 1) ⟨(x_dk dn_395_1_0_ok 8 rfl), rfl⟩)))))))
def te_395 : Nat → eE := (e_T 80 (e_T 39 te_395_0 te_395_27) (e_T 121 te_395_54 te_395_81))
theorem te_395_ok : ∀ pc, e_EOq eft cls elay eI n_395 pc (te_395 pc) := (e_Tok2 ((e_Tok2 (te_395_0_ok) (te_395_27_ok))) ((e_Tok2 (te_395_54_ok) (te_395_81_ok))))
theorem ho_396 : (xm_y n_396).cls = "RobotCellHouseModel" := rfl
def dn_396_0_0 : List (Nat × Instr × Nat) := [(0, .aload_n 0, 1), (1, .getfield 8, 3), (4, .iload_n 1, 1), (5, .invokestatic 294, 3), (8, .iconst 1, 1), (9, .iadd, 1), (10, .iaload, 1), (11, .ifCond .lt 5, 3), (14, .iconst 0, 1), (15, .ireturn, 1), (16, .aload_n 0, 1), (17, .iload_n 1, 1), (18, .iconst 0, 1), (19, .invokevirtual 397, 3), (22, .aload_n 0, 1), (23, .getfield 149, 3), (26, .bipush 7, 2), (28, .iload_n 1, 1), (29, .imul, 1), (30, .aload_n 0, 1), (31, .getfield 43, 3), (34, .iload_n 1, 1), (35, .iaload, 1), (36, .iadd, 1), (37, .iaload, 1)]
set_option maxRecDepth 20000 in
theorem dn_396_0_0_ok : dn_396_0_0.all (fun q => decide (decode (xm_b n_396) q.1 = .ok (q.2.1, q.2.2))) = true := xa_g_ok (by decide +kernel)
def dn_396_0_1 : List (Nat × Instr × Nat) := [(38, .i2l, 1), (39, .lstore_n 2, 1), (40, .aload_n 0, 1), (41, .getfield 152, 3), (44, .bipush 7, 2), (46, .iload_n 1, 1), (47, .imul, 1), (48, .aload_n 0, 1), (49, .getfield 43, 3), (52, .iload_n 1, 1), (53, .iaload, 1), (54, .iadd, 1), (55, .iaload, 1), (56, .i2l, 1), (57, .lstore 4, 2), (59, .iconst (-1), 1), (60, .istore 6, 2), (62, .aload_n 0, 1), (63, .getfield 40, 3), (66, .iload_n 1, 1), (67, .iaload, 1), (68, .i2l, 1), (69, .aload_n 0, 1), (70, .getfield 40, 3), (73, .iload_n 1, 1)]
set_option maxRecDepth 20000 in
theorem dn_396_0_1_ok : dn_396_0_1.all (fun q => decide (decode (xm_b n_396) q.1 = .ok (q.2.1, q.2.2))) = true := xa_g_ok (by decide +kernel)
def dn_396_0_2 : List (Nat × Instr × Nat) := [(74, .iaload, 1), (75, .i2l, 1), (76, .lmul, 1), (77, .lconst 1, 1), (78, .ladd, 1), (79, .lstore 7, 2), (81, .iconst 0, 1), (82, .istore 9, 2), (84, .iload 9, 2), (86, .aload_n 0, 1), (87, .getfield 279, 3), (90, .if_icmp .ge 93, 3), (93, .aload_n 0, 1), (94, .getfield 8, 3), (97, .iload 9, 2), (99, .invokestatic 774, 3), (102, .iaload, 1), (103, .istore 10, 2), (105, .iload 10, 2), (107, .iconst 4, 1), (108, .if_icmp .lt 10, 3), (111, .iload 10, 2), (113, .bipush 8, 2), (115, .if_icmp .ne 62, 3), (118, .aload_n 0, 1)]
set_option maxRecDepth 20000 in
theorem dn_396_0_2_ok : dn_396_0_2.all (fun q => decide (decode (xm_b n_396) q.1 = .ok (q.2.1, q.2.2))) = true := xa_g_ok (by decide +kernel)
def dn_396_0_3 : List (Nat × Instr × Nat) := [(119, .iload 9, 2), (121, .iconst 0, 1), (122, .invokevirtual 777, 3), (125, .i2l, 1), (126, .lload_n 2, 1), (127, .lsub, 1), (128, .lstore 11, 2), (130, .aload_n 0, 1), (131, .iload 9, 2), (133, .iconst 1, 1), (134, .invokevirtual 777, 3), (137, .i2l, 1), (138, .lload 4, 2), (140, .lsub, 1), (141, .lstore 13, 2), (143, .lload 11, 2), (145, .lload 11, 2), (147, .lmul, 1), (148, .lload 13, 2), (150, .lload 13, 2), (152, .lmul, 1), (153, .ladd, 1), (154, .lload 7, 2), (156, .lcmp, 1), (157, .ifCond .ge 20, 3)]
set_option maxRecDepth 20000 in
theorem dn_396_0_3_ok : dn_396_0_3.all (fun q => decide (decode (xm_b n_396) q.1 = .ok (q.2.1, q.2.2))) = true := xa_g_ok (by decide +kernel)
def dn_396_1_0 : List (Nat × Instr × Nat) := [(160, .lload 11, 2), (162, .lload 11, 2), (164, .lmul, 1), (165, .lload 13, 2), (167, .lload 13, 2), (169, .lmul, 1), (170, .ladd, 1), (171, .lstore 7, 2), (173, .iload 9, 2), (175, .istore 6, 2), (177, .iinc 9 1, 3), (180, .goto (-96), 3), (183, .iload 6, 2), (185, .ifCond .ge 5, 3), (188, .iconst 0, 1), (189, .ireturn, 1), (190, .aload_n 0, 1), (191, .getfield 8, 3), (194, .iload 6, 2), (196, .invokestatic 774, 3), (199, .iaload, 1), (200, .istore 9, 2), (202, .iload 9, 2), (204, .iconst 4, 1), (205, .if_icmp .ge 93, 3)]
set_option maxRecDepth 20000 in
theorem dn_396_1_0_ok : dn_396_1_0.all (fun q => decide (decode (xm_b n_396) q.1 = .ok (q.2.1, q.2.2))) = true := xa_g_ok (by decide +kernel)
def dn_396_1_1 : List (Nat × Instr × Nat) := [(208, .sipush 20704, 3), (211, .bipush 33, 2), (213, .iload 9, 2), (215, .imul, 1), (216, .iadd, 1), (217, .istore 10, 2), (219, .iconst 1, 1), (220, .istore 11, 2), (222, .aload_n 0, 1), (223, .getfield 8, 3), (226, .iload 10, 2), (228, .iload 11, 2), (230, .iadd, 1), (231, .iaload, 1), (232, .iload 6, 2), (234, .if_icmp .eq 9, 3), (237, .iinc 11 1, 3), (240, .goto (-18), 3), (243, .iload 11, 2), (245, .istore 12, 2), (247, .iload 12, 2), (249, .aload_n 0, 1), (250, .getfield 8, 3), (253, .iload 10, 2), (255, .iaload, 1)]
set_option maxRecDepth 20000 in
theorem dn_396_1_1_ok : dn_396_1_1.all (fun q => decide (decode (xm_b n_396) q.1 = .ok (q.2.1, q.2.2))) = true := xa_g_ok (by decide +kernel)
def dn_396_1_2 : List (Nat × Instr × Nat) := [(256, .if_icmp .ge 31, 3), (259, .aload_n 0, 1), (260, .getfield 8, 3), (263, .iload 10, 2), (265, .iload 12, 2), (267, .iadd, 1), (268, .aload_n 0, 1), (269, .getfield 8, 3), (272, .iload 10, 2), (274, .iload 12, 2), (276, .iadd, 1), (277, .iconst 1, 1), (278, .iadd, 1), (279, .iaload, 1), (280, .iastore, 1), (281, .iinc 12 1, 3), (284, .goto (-37), 3), (287, .aload_n 0, 1), (288, .getfield 8, 3), (291, .iload 10, 2), (293, .dup2, 1), (294, .iaload, 1), (295, .iconst 1, 1), (296, .isub, 1), (297, .iastore, 1)]
set_option maxRecDepth 20000 in
theorem dn_396_1_2_ok : dn_396_1_2.all (fun q => decide (decode (xm_b n_396) q.1 = .ok (q.2.1, q.2.2))) = true := xa_g_ok (by decide +kernel)
def dn_396_1_3 : List (Nat × Instr × Nat) := [(298, .aload_n 0, 1), (299, .getfield 8, 3), (302, .iload 6, 2), (304, .invokestatic 774, 3), (307, .iconst 4, 1), (308, .iload_n 1, 1), (309, .iadd, 1), (310, .iastore, 1), (311, .aload_n 0, 1), (312, .getfield 8, 3), (315, .iload 6, 2), (317, .invokestatic 774, 3), (320, .iconst 3, 1), (321, .iadd, 1), (322, .iconst 0, 1), (323, .iastore, 1), (324, .aload_n 0, 1), (325, .getfield 8, 3), (328, .iload_n 1, 1), (329, .invokestatic 294, 3), (332, .iconst 1, 1), (333, .iadd, 1), (334, .iload 6, 2), (336, .iastore, 1), (337, .aload_n 0, 1)]
set_option maxRecDepth 20000 in
theorem dn_396_1_3_ok : dn_396_1_3.all (fun q => decide (decode (xm_b n_396) q.1 = .ok (q.2.1, q.2.2))) = true := xa_g_ok (by decide +kernel)
def dn_396_2_0 : List (Nat × Instr × Nat) := [(338, .iconst (-1), 1), (339, .invokevirtual 762, 3), (342, .aload_n 0, 1), (343, .bipush 6, 2), (345, .iload_n 1, 1), (346, .iload 6, 2), (348, .invokevirtual 693, 3), (351, .iconst 1, 1), (352, .ireturn, 1)]
set_option maxRecDepth 20000 in
theorem dn_396_2_0_ok : dn_396_2_0.all (fun q => decide (decode (xm_b n_396) q.1 = .ok (q.2.1, q.2.2))) = true := xa_g_ok (by decide +kernel)
def te_396_0 : Nat → eE := (e_T 18 (e_T 9 (e_T 4 (e_T 0 (e_L 0 (0, ei_load 0 2 1, 0, 0)) (e_T 1 (e_L 1 (0, ei_getf eft elay 12 0 4, 0, 0)) (e_L 4 (0, ei_load 1 0 5, 0, 0)))) (e_T 5 (e_L 5 (2, e_nof, 268, 1)) (e_T 8 (e_L 8 (0, ei_push (0, 1) 9, 0, 0)) (e_L 9 (0, ei_bin eF_add 10, 0, 0))))) (e_T 14 (e_T 10 (e_L 10 (0, ei_ald elay false 11, 0, 0)) (e_T 11 (e_L 11 (0, ei_if1 2 16 14, 0, 0)) (e_L 14 (0, ei_push (0, 0) 15, 0, 0)))) (e_T 16 (e_T 15 (e_L 15 (1, e_nof, 4, 0)) (e_L 16 (0, ei_load 0 2 17, 0, 0))) (e_T 17 (e_L 17 (0, ei_load 1 0 18, 0, 0)) (e_L 18 (0, ei_push (0, 0) 19, 0, 0)))))) (e_T 29 (e_T 23 (e_T 19 (e_L 19 (2, e_nof, 301, 3)) (e_T 22 (e_L 22 (0, ei_load 0 2 23, 0, 0)) (e_L 23 (0, ei_getf eft elay 12 55 26, 0, 0)))) (e_T 26 (e_L 26 (0, ei_push (0, 7) 28, 0, 0)) (e_T 28 (e_L 28 (0, ei_load 1 0 29, 0, 0)) (e_L 29 (0, ei_bin eF_mul 30, 0, 0))))) (e_T 34 (e_T 30 (e_L 30 (0, ei_load 0 2 31, 0, 0)) (e_T 31 (e_L 31 (0, ei_getf eft elay 12 15 34, 0, 0)) (e_L 34 (0, ei_load 1 0 35, 0, 0)))) (e_T 36 (e_T 35 (e_L 35 (0, ei_ald elay false 36, 0, 0)) (e_L 36 (0, ei_bin eF_add 37, 0, 0))) (e_T 37 (e_L 37 (0, ei_ald elay false 38, 0, 0)) (e_L 38 (0, ei_un (fun x => (4, x)) 39, 0, 0)))))))
set_option maxRecDepth 20000 in
set_option maxHeartbeats 4000000 in
theorem te_396_0_ok : ∀ pc, e_EOq eft cls elay eI n_396 pc (te_396_0 pc) :=
  (e_Tok2
  (e_Tok2
  (e_Tok2
  (e_Tok2
  (e_Lok (ld_aload_n_0 (x_dk dn_396_0_0_ok 0 rfl)))
  (e_Tok2
  (e_Lok (lk_12_8g ho_396 (x_dk dn_396_0_0_ok 1 rfl)))
  (e_Lok (ld_iload_n_1 (x_dk dn_396_0_0_ok 2 rfl)))))
  (e_Tok2
  (e_Lok (lk_12_294 ho_396 (x_dk dn_396_0_0_ok 3 rfl)))
  (e_Tok2
  (e_Lok (ps_iconst_1 (x_dk dn_396_0_0_ok 4 rfl)))
  (e_Lok (sm_iadd (x_dk dn_396_0_0_ok 5 rfl))))))
  (e_Tok2
  (e_Tok2
  (e_Lok (sm_iaload (x_dk dn_396_0_0_ok 6 rfl)))
  (e_Tok2
  (e_Lok (e_st (I := eI) (er_iflt (off := 5) (tg := 16) (x_dk dn_396_0_0_ok 7 rfl) (by decide)) nx_if1))
  (e_Lok (ps_iconst_0 (x_dk dn_396_0_0_ok 8 rfl)))))
  (e_Tok2
  (e_Tok2
  (e_Lok (e_rt (I := eI) (k := 4) ⟨(x_dk dn_396_0_0_ok 9 rfl), rfl⟩))
  (e_Lok (ld_aload_n_0 (x_dk dn_396_0_0_ok 10 rfl))))
  (e_Tok2
  (e_Lok (ld_iload_n_1 (x_dk dn_396_0_0_ok 11 rfl)))
  (e_Lok (ps_iconst_0 (x_dk dn_396_0_0_ok 12 rfl)))))))
  (e_Tok2
  (e_Tok2
  (e_Tok2
  (e_Lok (lk_12_397 ho_396 (x_dk dn_396_0_0_ok 13 rfl)))
  (e_Tok2
  (e_Lok (ld_aload_n_0 (x_dk dn_396_0_0_ok 14 rfl)))
  (e_Lok (lk_12_149g ho_396 (x_dk dn_396_0_0_ok 15 rfl)))))
  (e_Tok2
  (e_Lok (ps_bipush_7 (x_dk dn_396_0_0_ok 16 rfl)))
  (e_Tok2
  (e_Lok (ld_iload_n_1 (x_dk dn_396_0_0_ok 17 rfl)))
  (e_Lok (sm_imul (x_dk dn_396_0_0_ok 18 rfl))))))
  (e_Tok2
  (e_Tok2
  (e_Lok (ld_aload_n_0 (x_dk dn_396_0_0_ok 19 rfl)))
  (e_Tok2
  (e_Lok (lk_12_43g ho_396 (x_dk dn_396_0_0_ok 20 rfl)))
  (e_Lok (ld_iload_n_1 (x_dk dn_396_0_0_ok 21 rfl)))))
  (e_Tok2
  (e_Tok2
  (e_Lok (sm_iaload (x_dk dn_396_0_0_ok 22 rfl)))
  (e_Lok (sm_iadd (x_dk dn_396_0_0_ok 23 rfl))))
  (e_Tok2
  (e_Lok (sm_iaload (x_dk dn_396_0_0_ok 24 rfl)))
  (e_Lok (e_st (I := eI) (er_i2l (x_dk dn_396_0_1_ok 0 rfl)) (nx_un (fun _ => rfl)))))))))
def te_396_26 : Nat → eE := (e_T 56 (e_T 47 (e_T 41 (e_T 39 (e_L 39 (0, ei_stor 2 1 40, 0, 0)) (e_T 40 (e_L 40 (0, ei_load 0 2 41, 0, 0)) (e_L 41 (0, ei_getf eft elay 12 56 44, 0, 0)))) (e_T 44 (e_L 44 (0, ei_push (0, 7) 46, 0, 0)) (e_T 46 (e_L 46 (0, ei_load 1 0 47, 0, 0)) (e_L 47 (0, ei_bin eF_mul 48, 0, 0))))) (e_T 52 (e_T 48 (e_L 48 (0, ei_load 0 2 49, 0, 0)) (e_T 49 (e_L 49 (0, ei_getf eft elay 12 15 52, 0, 0)) (e_L 52 (0, ei_load 1 0 53, 0, 0)))) (e_T 54 (e_T 53 (e_L 53 (0, ei_ald elay false 54, 0, 0)) (e_L 54 (0, ei_bin eF_add 55, 0, 0))) (e_T 55 (e_L 55 (0, ei_ald elay false 56, 0, 0)) (e_L 56 (0, ei_un (fun x => (4, x)) 57, 0, 0)))))) (e_T 66 (e_T 60 (e_T 57 (e_L 57 (0, ei_stor 4 1 59, 0, 0)) (e_T 59 (e_L 59 (0, ei_push (0, (-1)) 60, 0, 0)) (e_L 60 (0, ei_stor 6 0 62, 0, 0)))) (e_T 62 (e_L 62 (0, ei_load 0 2 63, 0, 0)) (e_T 63 (e_L 63 (0, ei_getf eft elay 12 14 66, 0, 0)) (e_L 66 (0, ei_load 1 0 67, 0, 0))))) (e_T 69 (e_T 67 (e_L 67 (0, ei_ald elay false 68, 0, 0)) (e_T 68 (e_L 68 (0, ei_un (fun x => (4, x)) 69, 0, 0)) (e_L 69 (0, ei_load 0 2 70, 0, 0)))) (e_T 73 (e_T 70 (e_L 70 (0, ei_getf eft elay 12 14 73, 0, 0)) (e_L 73 (0, ei_load 1 0 74, 0, 0))) (e_T 74 (e_L 74 (0, ei_ald elay false 75, 0, 0)) (e_L 75 (0, ei_un (fun x => (4, x)) 76, 0, 0)))))))
set_option maxRecDepth 20000 in
set_option maxHeartbeats 4000000 in
theorem te_396_26_ok : ∀ pc, e_EOq eft cls elay eI n_396 pc (te_396_26 pc) :=
  (e_Tok2
  (e_Tok2
  (e_Tok2
  (e_Tok2
  (e_Lok (e_st (I := eI) (er_lstore_n (i := 2) (x_dk dn_396_0_1_ok 1 rfl) (by decide +kernel)) nx_stor))
  (e_Tok2
  (e_Lok (ld_aload_n_0 (x_dk dn_396_0_1_ok 2 rfl)))
  (e_Lok (lk_12_152g ho_396 (x_dk dn_396_0_1_ok 3 rfl)))))
  (e_Tok2
  (e_Lok (ps_bipush_7 (x_dk dn_396_0_1_ok 4 rfl)))
  (e_Tok2
  (e_Lok (ld_iload_n_1 (x_dk dn_396_0_1_ok 5 rfl)))
  (e_Lok (sm_imul (x_dk dn_396_0_1_ok 6 rfl))))))
  (e_Tok2
  (e_Tok2
  (e_Lok (ld_aload_n_0 (x_dk dn_396_0_1_ok 7 rfl)))
  (e_Tok2
  (e_Lok (lk_12_43g ho_396 (x_dk dn_396_0_1_ok 8 rfl)))
  (e_Lok (ld_iload_n_1 (x_dk dn_396_0_1_ok 9 rfl)))))
  (e_Tok2
  (e_Tok2
  (e_Lok (sm_iaload (x_dk dn_396_0_1_ok 10 rfl)))
  (e_Lok (sm_iadd (x_dk dn_396_0_1_ok 11 rfl))))
  (e_Tok2
  (e_Lok (sm_iaload (x_dk dn_396_0_1_ok 12 rfl)))
  (e_Lok (e_st (I := eI) (er_i2l (x_dk dn_396_0_1_ok 13 rfl)) (nx_un (fun _ => rfl))))))))
  (e_Tok2
  (e_Tok2
  (e_Tok2
  (e_Lok (e_st (I := eI) (er_lstore (i := 4) (x_dk dn_396_0_1_ok 14 rfl) (by decide +kernel)) nx_stor))
  (e_Tok2
  (e_Lok (ps_iconst_m1 (x_dk dn_396_0_1_ok 15 rfl)))
  (e_Lok (e_st (I := eI) (er_istore (i := 6) (x_dk dn_396_0_1_ok 16 rfl) (by decide +kernel)) nx_stor))))
  (e_Tok2
  (e_Lok (ld_aload_n_0 (x_dk dn_396_0_1_ok 17 rfl)))
  (e_Tok2
  (e_Lok (lk_12_40g ho_396 (x_dk dn_396_0_1_ok 18 rfl)))
  (e_Lok (ld_iload_n_1 (x_dk dn_396_0_1_ok 19 rfl))))))
  (e_Tok2
  (e_Tok2
  (e_Lok (sm_iaload (x_dk dn_396_0_1_ok 20 rfl)))
  (e_Tok2
  (e_Lok (e_st (I := eI) (er_i2l (x_dk dn_396_0_1_ok 21 rfl)) (nx_un (fun _ => rfl))))
  (e_Lok (ld_aload_n_0 (x_dk dn_396_0_1_ok 22 rfl)))))
  (e_Tok2
  (e_Tok2
  (e_Lok (lk_12_40g ho_396 (x_dk dn_396_0_1_ok 23 rfl)))
  (e_Lok (ld_iload_n_1 (x_dk dn_396_0_1_ok 24 rfl))))
  (e_Tok2
  (e_Lok (sm_iaload (x_dk dn_396_0_2_ok 0 rfl)))
  (e_Lok (e_st (I := eI) (er_i2l (x_dk dn_396_0_2_ok 1 rfl)) (nx_un (fun _ => rfl)))))))))
def te_396_52 : Nat → eE := (e_T 97 (e_T 82 (e_T 78 (e_T 76 (e_L 76 (0, ei_binL eG_mul 77, 0, 0)) (e_T 77 (e_L 77 (0, ei_push (4, 1) 78, 0, 0)) (e_L 78 (0, ei_binL eG_add 79, 0, 0)))) (e_T 79 (e_L 79 (0, ei_stor 7 1 81, 0, 0)) (e_T 81 (e_L 81 (0, ei_push (0, 0) 82, 0, 0)) (e_L 82 (0, ei_stor 9 0 84, 0, 0))))) (e_T 87 (e_T 84 (e_L 84 (0, ei_load 9 0 86, 0, 0)) (e_T 86 (e_L 86 (0, ei_load 0 2 87, 0, 0)) (e_L 87 (0, ei_getf eft elay 12 40 90, 0, 0)))) (e_T 93 (e_T 90 (e_L 90 (0, ei_if2 3 183 93, 0, 0)) (e_L 93 (0, ei_load 0 2 94, 0, 0))) (e_T 94 (e_L 94 (0, ei_getf eft elay 12 0 97, 0, 0)) (e_L 97 (0, ei_load 9 0 99, 0, 0)))))) (e_T 108 (e_T 103 (e_T 99 (e_L 99 (2, e_nof, 392, 1)) (e_T 102 (e_L 102 (0, ei_ald elay false 103, 0, 0)) (e_L 103 (0, ei_stor 10 0 105, 0, 0)))) (e_T 105 (e_L 105 (0, ei_load 10 0 107, 0, 0)) (e_T 107 (e_L 107 (0, ei_push (0, 4) 108, 0, 0)) (e_L 108 (0, ei_if2 2 118 111, 0, 0))))) (e_T 115 (e_T 111 (e_L 111 (0, ei_load 10 0 113, 0, 0)) (e_T 113 (e_L 113 (0, ei_push (0, 8) 115, 0, 0)) (e_L 115 (0, ei_if2 1 177 118, 0, 0)))) (e_T 119 (e_T 118 (e_L 118 (0, ei_load 0 2 119, 0, 0)) (e_L 119 (0, ei_load 9 0 121, 0, 0))) (e_T 121 (e_L 121 (0, ei_push (0, 0) 122, 0, 0)) (e_L 122 (2, e_nof, 395, 3)))))))
set_option maxRecDepth 20000 in
set_option maxHeartbeats 4000000 in
theorem te_396_52_ok : ∀ pc, e_EOq eft cls elay eI n_396 pc (te_396_52 pc) :=
  (e_Tok2
  (e_Tok2
  (e_Tok2
  (e_Tok2
  (e_Lok (e_st (I := eI) (er_lmul (x_dk dn_396_0_2_ok 2 rfl)) (nx_binL bG_lmul)))
  (e_Tok2
  (e_Lok (ps_lconst_1 (x_dk dn_396_0_2_ok 3 rfl)))
  (e_Lok (e_st (I := eI) (er_ladd (x_dk dn_396_0_2_ok 4 rfl)) (nx_binL bG_ladd)))))
  (e_Tok2
  (e_Lok (e_st (I := eI) (er_lstore (i := 7) (x_dk dn_396_0_2_ok 5 rfl) (by decide +kernel)) nx_stor))
  (e_Tok2
  (e_Lok (ps_iconst_0 (x_dk dn_396_0_2_ok 6 rfl)))
  (e_Lok (e_st (I := eI) (er_istore (i := 9) (x_dk dn_396_0_2_ok 7 rfl) (by decide +kernel)) nx_stor)))))
  (e_Tok2
  (e_Tok2
  (e_Lok (ld_iload_9 (x_dk dn_396_0_2_ok 8 rfl)))
  (e_Tok2
  (e_Lok (ld_aload_n_0 (x_dk dn_396_0_2_ok 9 rfl)))
  (e_Lok (lk_12_279g ho_396 (x_dk dn_396_0_2_ok 10 rfl)))))
  (e_Tok2
  (e_Tok2
  (e_Lok (e_st (I := eI) (er_icmpge (off := 93) (tg := 183) (x_dk dn_396_0_2_ok 11 rfl) (by decide)) nx_if2))
  (e_Lok (ld_aload_n_0 (x_dk dn_396_0_2_ok 12 rfl))))
  (e_Tok2
  (e_Lok (lk_12_8g ho_396 (x_dk dn_396_0_2_ok 13 rfl)))
  (e_Lok (ld_iload_9 (x_dk dn_396_0_2_ok 14 rfl)))))))
  (e_Tok2
  (e_Tok2
  (e_Tok2
  (e_Lok (lk_12_774 ho_396 (x_dk dn_396_0_2_ok 15 rfl)))
  (e_Tok2
  (e_Lok (sm_iaload (x_dk dn_396_0_2_ok 16 rfl)))
  (e_Lok (e_st (I := eI) (er_istore (i := 10) (x_dk dn_396_0_2_ok 17 rfl) (by decide +kernel)) nx_stor))))
  (e_Tok2
  (e_Lok (ld_iload_10 (x_dk dn_396_0_2_ok 18 rfl)))
  (e_Tok2
  (e_Lok (ps_iconst_4 (x_dk dn_396_0_2_ok 19 rfl)))
  (e_Lok (e_st (I := eI) (er_icmplt (off := 10) (tg := 118) (x_dk dn_396_0_2_ok 20 rfl) (by decide)) nx_if2)))))
  (e_Tok2
  (e_Tok2
  (e_Lok (ld_iload_10 (x_dk dn_396_0_2_ok 21 rfl)))
  (e_Tok2
  (e_Lok (ps_bipush_8 (x_dk dn_396_0_2_ok 22 rfl)))
  (e_Lok (e_st (I := eI) (er_icmpne (off := 62) (tg := 177) (x_dk dn_396_0_2_ok 23 rfl) (by decide)) nx_if2))))
  (e_Tok2
  (e_Tok2
  (e_Lok (ld_aload_n_0 (x_dk dn_396_0_2_ok 24 rfl)))
  (e_Lok (ld_iload_9 (x_dk dn_396_0_3_ok 0 rfl))))
  (e_Tok2
  (e_Lok (ps_iconst_0 (x_dk dn_396_0_3_ok 1 rfl)))
  (e_Lok (lk_12_777 ho_396 (x_dk dn_396_0_3_ok 2 rfl))))))))
def te_396_78 : Nat → eE := (e_T 143 (e_T 131 (e_T 127 (e_T 125 (e_L 125 (0, ei_un (fun x => (4, x)) 126, 0, 0)) (e_T 126 (e_L 126 (0, ei_load 2 1 127, 0, 0)) (e_L 127 (0, ei_binL eG_sub 128, 0, 0)))) (e_T 128 (e_L 128 (0, ei_stor 11 1 130, 0, 0)) (e_T 130 (e_L 130 (0, ei_load 0 2 131, 0, 0)) (e_L 131 (0, ei_load 9 0 133, 0, 0))))) (e_T 137 (e_T 133 (e_L 133 (0, ei_push (0, 1) 134, 0, 0)) (e_T 134 (e_L 134 (2, e_nof, 395, 3)) (e_L 137 (0, ei_un (fun x => (4, x)) 138, 0, 0)))) (e_T 140 (e_T 138 (e_L 138 (0, ei_load 4 1 140, 0, 0)) (e_L 140 (0, ei_binL eG_sub 141, 0, 0))) (e_T 141 (e_L 141 (0, ei_stor 13 1 143, 0, 0)) (e_L 143 (0, ei_load 11 1 145, 0, 0)))))) (e_T 153 (e_T 148 (e_T 145 (e_L 145 (0, ei_load 11 1 147, 0, 0)) (e_T 147 (e_L 147 (0, ei_binL eG_mul 148, 0, 0)) (e_L 148 (0, ei_load 13 1 150, 0, 0)))) (e_T 150 (e_L 150 (0, ei_load 13 1 152, 0, 0)) (e_T 152 (e_L 152 (0, ei_binL eG_mul 153, 0, 0)) (e_L 153 (0, ei_binL eG_add 154, 0, 0))))) (e_T 157 (e_T 154 (e_L 154 (0, ei_load 7 1 156, 0, 0)) (e_T 156 (e_L 156 (0, ei_binL eG_cmp 157, 0, 0)) (e_L 157 (0, ei_if1 3 177 160, 0, 0)))) (e_T 162 (e_T 160 (e_L 160 (0, ei_load 11 1 162, 0, 0)) (e_L 162 (0, ei_load 11 1 164, 0, 0))) (e_T 164 (e_L 164 (0, ei_binL eG_mul 165, 0, 0)) (e_L 165 (0, ei_load 13 1 167, 0, 0)))))))
set_option maxRecDepth 20000 in
set_option maxHeartbeats 4000000 in
theorem te_396_78_ok : ∀ pc, e_EOq eft cls elay eI n_396 pc (te_396_78 pc) :=
  (e_Tok2
  (e_Tok2
  (e_Tok2
  (e_Tok2
  (e_Lok (e_st (I := eI) (er_i2l (x_dk dn_396_0_3_ok 3 rfl)) (nx_un (fun _ => rfl))))
  (e_Tok2
  (e_Lok (ld_lload_n_2 (x_dk dn_396_0_3_ok 4 rfl)))
  (e_Lok (e_st (I := eI) (er_lsub (x_dk dn_396_0_3_ok 5 rfl)) (nx_binL bG_lsub)))))
  (e_Tok2
  (e_Lok (e_st (I := eI) (er_lstore (i := 11) (x_dk dn_396_0_3_ok 6 rfl) (by decide +kernel)) nx_stor))
  (e_Tok2
  (e_Lok (ld_aload_n_0 (x_dk dn_396_0_3_ok 7 rfl)))
  (e_Lok (ld_iload_9 (x_dk dn_396_0_3_ok 8 rfl))))))
  (e_Tok2
  (e_Tok2
  (e_Lok (ps_iconst_1 (x_dk dn_396_0_3_ok 9 rfl)))
  (e_Tok2
  (e_Lok (lk_12_777 ho_396 (x_dk dn_396_0_3_ok 10 rfl)))
  (e_Lok (e_st (I := eI) (er_i2l (x_dk dn_396_0_3_ok 11 rfl)) (nx_un (fun _ => rfl))))))
  (e_Tok2
  (e_Tok2
  (e_Lok (ld_lload_4 (x_dk dn_396_0_3_ok 12 rfl)))
  (e_Lok (e_st (I := eI) (er_lsub (x_dk dn_396_0_3_ok 13 rfl)) (nx_binL bG_lsub))))
  (e_Tok2
  (e_Lok (e_st (I := eI) (er_lstore (i := 13) (x_dk dn_396_0_3_ok 14 rfl) (by decide +kernel)) nx_stor))
  (e_Lok (ld_lload_11 (x_dk dn_396_0_3_ok 15 rfl)))))))
  (e_Tok2
  (e_Tok2
  (e_Tok2
  (e_Lok (ld_lload_11 (x_dk dn_396_0_3_ok 16 rfl)))
  (e_Tok2
  (e_Lok (e_st (I := eI) (er_lmul (x_dk dn_396_0_3_ok 17 rfl)) (nx_binL bG_lmul)))
  (e_Lok (ld_lload_13 (x_dk dn_396_0_3_ok 18 rfl)))))
  (e_Tok2
  (e_Lok (ld_lload_13 (x_dk dn_396_0_3_ok 19 rfl)))
  (e_Tok2
  (e_Lok (e_st (I := eI) (er_lmul (x_dk dn_396_0_3_ok 20 rfl)) (nx_binL bG_lmul)))
  (e_Lok (e_st (I := eI) (er_ladd (x_dk dn_396_0_3_ok 21 rfl)) (nx_binL bG_ladd))))))
  (e_Tok2
  (e_Tok2
  (e_Lok (ld_lload_7 (x_dk dn_396_0_3_ok 22 rfl)))
  (e_Tok2
  (e_Lok (e_st (I := eI) (er_lcmp (x_dk dn_396_0_3_ok 23 rfl)) (nx_binL bG_lcmp)))
  (e_Lok (e_st (I := eI) (er_ifge (off := 20) (tg := 177) (x_dk dn_396_0_3_ok 24 rfl) (by decide)) nx_if1))))
  (e_Tok2
  (e_Tok2
  (e_Lok (ld_lload_11 (x_dk dn_396_1_0_ok 0 rfl)))
  (e_Lok (ld_lload_11 (x_dk dn_396_1_0_ok 1 rfl))))
  (e_Tok2
  (e_Lok (e_st (I := eI) (er_lmul (x_dk dn_396_1_0_ok 2 rfl)) (nx_binL bG_lmul)))
  (e_Lok (ld_lload_13 (x_dk dn_396_1_0_ok 3 rfl))))))))
def te_396_104 : Nat → eE := (e_T 190 (e_T 175 (e_T 170 (e_T 167 (e_L 167 (0, ei_load 13 1 169, 0, 0)) (e_T 169 (e_L 169 (0, ei_binL eG_mul 170, 0, 0)) (e_L 170 (0, ei_binL eG_add 171, 0, 0)))) (e_T 171 (e_L 171 (0, ei_stor 7 1 173, 0, 0)) (e_T 173 (e_L 173 (0, ei_load 9 0 175, 0, 0)) (e_L 175 (0, ei_stor 6 0 177, 0, 0))))) (e_T 183 (e_T 177 (e_L 177 (0, ei_inc 9 1 180, 0, 0)) (e_T 180 (e_L 180 (0, ei_goto 84, 0, 0)) (e_L 183 (0, ei_load 6 0 185, 0, 0)))) (e_T 188 (e_T 185 (e_L 185 (0, ei_if1 3 190 188, 0, 0)) (e_L 188 (0, ei_push (0, 0) 189, 0, 0))) (e_T 189 (e_L 189 (1, e_nof, 4, 0)) (e_L 190 (0, ei_load 0 2 191, 0, 0)))))) (e_T 202 (e_T 196 (e_T 191 (e_L 191 (0, ei_getf eft elay 12 0 194, 0, 0)) (e_T 194 (e_L 194 (0, ei_load 6 0 196, 0, 0)) (e_L 196 (2, e_nof, 392, 1)))) (e_T 199 (e_L 199 (0, ei_ald elay false 200, 0, 0)) (e_T 200 (e_L 200 (0, ei_stor 9 0 202, 0, 0)) (e_L 202 (0, ei_load 9 0 204, 0, 0))))) (e_T 208 (e_T 204 (e_L 204 (0, ei_push (0, 4) 205, 0, 0)) (e_T 205 (e_L 205 (0, ei_if2 3 298 208, 0, 0)) (e_L 208 (0, ei_push (0, 20704) 211, 0, 0)))) (e_T 213 (e_T 211 (e_L 211 (0, ei_push (0, 33) 213, 0, 0)) (e_L 213 (0, ei_load 9 0 215, 0, 0))) (e_T 215 (e_L 215 (0, ei_bin eF_mul 216, 0, 0)) (e_L 216 (0, ei_bin eF_add 217, 0, 0)))))))
set_option maxRecDepth 20000 in
set_option maxHeartbeats 4000000 in
theorem te_396_104_ok : ∀ pc, e_EOq eft cls elay eI n_396 pc (te_396_104 pc) :=
  (e_Tok2
  (e_Tok2
  (e_Tok2
  (e_Tok2
  (e_Lok (ld_lload_13 (x_dk dn_396_1_0_ok 4 rfl)))
  (e_Tok2
  (e_Lok (e_st (I := eI) (er_lmul (x_dk dn_396_1_0_ok 5 rfl)) (nx_binL bG_lmul)))
  (e_Lok (e_st (I := eI) (er_ladd (x_dk dn_396_1_0_ok 6 rfl)) (nx_binL bG_ladd)))))
  (e_Tok2
  (e_Lok (e_st (I := eI) (er_lstore (i := 7) (x_dk dn_396_1_0_ok 7 rfl) (by decide +kernel)) nx_stor))
  (e_Tok2
  (e_Lok (ld_iload_9 (x_dk dn_396_1_0_ok 8 rfl)))
  (e_Lok (e_st (I := eI) (er_istore (i := 6) (x_dk dn_396_1_0_ok 9 rfl) (by decide +kernel)) nx_stor)))))
  (e_Tok2
  (e_Tok2
  (e_Lok (e_st (I := eI) (er_iinc (i := 9) (n := 1) (x_dk dn_396_1_0_ok 10 rfl) (by decide +kernel) (by decide)) nx_inc))
  (e_Tok2
  (e_Lok (e_st (I := eI) (er_goto (off := (-96)) (tg := 84) (x_dk dn_396_1_0_ok 11 rfl) (by decide)) nx_goto))
  (e_Lok (ld_iload_6 (x_dk dn_396_1_0_ok 12 rfl)))))
  (e_Tok2
  (e_Tok2
  (e_Lok (e_st (I := eI) (er_ifge (off := 5) (tg := 190) (x_dk dn_396_1_0_ok 13 rfl) (by decide)) nx_if1))
  (e_Lok (ps_iconst_0 (x_dk dn_396_1_0_ok 14 rfl))))
  (e_Tok2
  (e_Lok (e_rt (I := eI) (k := 4) ⟨(x_dk dn_396_1_0_ok 15 rfl), rfl⟩))
  (e_Lok (ld_aload_n_0 (x_dk dn_396_1_0_ok 16 rfl)))))))
  (e_Tok2
  (e_Tok2
  (e_Tok2
  (e_Lok (lk_12_8g ho_396 (x_dk dn_396_1_0_ok 17 rfl)))
  (e_Tok2
  (e_Lok (ld_iload_6 (x_dk dn_396_1_0_ok 18 rfl)))
  (e_Lok (lk_12_774 ho_396 (x_dk dn_396_1_0_ok 19 rfl)))))
  (e_Tok2
  (e_Lok (sm_iaload (x_dk dn_396_1_0_ok 20 rfl)))
  (e_Tok2
  (e_Lok (e_st (I := eI) (er_istore (i := 9) (x_dk dn_396_1_0_ok 21 rfl) (by decide +kernel)) nx_stor))
  (e_Lok (ld_iload_9 (x_dk dn_396_1_0_ok 22 rfl))))))
  (e_Tok2
  (e_Tok2
  (e_Lok (ps_iconst_4 (x_dk dn_396_1_0_ok 23 rfl)))
  (e_Tok2
  (e_Lok (e_st (I := eI) (er_icmpge (off := 93) (tg := 298) (x_dk dn_396_1_0_ok 24 rfl) (by decide)) nx_if2))
  (e_Lok (ps_sipush_20704 (x_dk dn_396_1_1_ok 0 rfl)))))
  (e_Tok2
  (e_Tok2
  (e_Lok (ps_bipush_33 (x_dk dn_396_1_1_ok 1 rfl)))
  (e_Lok (ld_iload_9 (x_dk dn_396_1_1_ok 2 rfl))))
  (e_Tok2
  (e_Lok (sm_imul (x_dk dn_396_1_1_ok 3 rfl)))
  (e_Lok (sm_iadd (x_dk dn_396_1_1_ok 4 rfl))))))))
def te_396_130 : Nat → eE := (e_T 240 (e_T 226 (e_T 220 (e_T 217 (e_L 217 (0, ei_stor 10 0 219, 0, 0)) (e_T 219 (e_L 219 (0, ei_push (0, 1) 220, 0, 0)) (e_L 220 (0, ei_stor 11 0 222, 0, 0)))) (e_T 222 (e_L 222 (0, ei_load 0 2 223, 0, 0)) (e_T 223 (e_L 223 (0, ei_getf eft elay 12 0 226, 0, 0)) (e_L 226 (0, ei_load 10 0 228, 0, 0))))) (e_T 231 (e_T 228 (e_L 228 (0, ei_load 11 0 230, 0, 0)) (e_T 230 (e_L 230 (0, ei_bin eF_add 231, 0, 0)) (e_L 231 (0, ei_ald elay false 232, 0, 0)))) (e_T 234 (e_T 232 (e_L 232 (0, ei_load 6 0 234, 0, 0)) (e_L 234 (0, ei_if2 0 243 237, 0, 0))) (e_T 237 (e_L 237 (0, ei_inc 11 1 240, 0, 0)) (e_L 240 (0, ei_goto 222, 0, 0)))))) (e_T 253 (e_T 247 (e_T 243 (e_L 243 (0, ei_load 11 0 245, 0, 0)) (e_T 245 (e_L 245 (0, ei_stor 12 0 247, 0, 0)) (e_L 247 (0, ei_load 12 0 249, 0, 0)))) (e_T 249 (e_L 249 (0, ei_load 0 2 250, 0, 0)) (e_T 250 (e_L 250 (0, ei_getf eft elay 12 0 253, 0, 0)) (e_L 253 (0, ei_load 10 0 255, 0, 0))))) (e_T 259 (e_T 255 (e_L 255 (0, ei_ald elay false 256, 0, 0)) (e_T 256 (e_L 256 (0, ei_if2 3 287 259, 0, 0)) (e_L 259 (0, ei_load 0 2 260, 0, 0)))) (e_T 263 (e_T 260 (e_L 260 (0, ei_getf eft elay 12 0 263, 0, 0)) (e_L 263 (0, ei_load 10 0 265, 0, 0))) (e_T 265 (e_L 265 (0, ei_load 12 0 267, 0, 0)) (e_L 267 (0, ei_bin eF_add 268, 0, 0)))))))
set_option maxRecDepth 20000 in
set_option maxHeartbeats 4000000 in
theorem te_396_130_ok : ∀ pc, e_EOq eft cls elay eI n_396 pc (te_396_130 pc) :=
  (e_Tok2
  (e_Tok2
  (e_Tok2
  (e_Tok2
  (e_Lok (e_st (I := eI) (er_istore (i := 10) (x_dk dn_396_1_1_ok 5 rfl) (by decide +kernel)) nx_stor))
  (e_Tok2
  (e_Lok (ps_iconst_1 (x_dk dn_396_1_1_ok 6 rfl)))
  (e_Lok (e_st (I := eI) (er_istore (i := 11) (x_dk dn_396_1_1_ok 7 rfl) (by decide +kernel)) nx_stor))))
  (e_Tok2
  (e_Lok (ld_aload_n_0 (x_dk dn_396_1_1_ok 8 rfl)))
  (e_Tok2
  (e_Lok (lk_12_8g ho_396 (x_dk dn_396_1_1_ok 9 rfl)))
  (e_Lok (ld_iload_10 (x_dk dn_396_1_1_ok 10 rfl))))))
  (e_Tok2
  (e_Tok2
  (e_Lok (ld_iload_11 (x_dk dn_396_1_1_ok 11 rfl)))
  (e_Tok2
  (e_Lok (sm_iadd (x_dk dn_396_1_1_ok 12 rfl)))
  (e_Lok (sm_iaload (x_dk dn_396_1_1_ok 13 rfl)))))
  (e_Tok2
  (e_Tok2
  (e_Lok (ld_iload_6 (x_dk dn_396_1_1_ok 14 rfl)))
  (e_Lok (e_st (I := eI) (er_icmpeq (off := 9) (tg := 243) (x_dk dn_396_1_1_ok 15 rfl) (by decide)) nx_if2)))
  (e_Tok2
  (e_Lok (e_st (I := eI) (er_iinc (i := 11) (n := 1) (x_dk dn_396_1_1_ok 16 rfl) (by decide +kernel) (by decide)) nx_inc))
  (e_Lok (e_st (I := eI) (er_goto (off := (-18)) (tg := 222) (x_dk dn_396_1_1_ok 17 rfl) (by decide)) nx_goto))))))
  (e_Tok2
  (e_Tok2
  (e_Tok2
  (e_Lok (ld_iload_11 (x_dk dn_396_1_1_ok 18 rfl)))
  (e_Tok2
  (e_Lok (e_st (I := eI) (er_istore (i := 12) (x_dk dn_396_1_1_ok 19 rfl) (by decide +kernel)) nx_stor))
  (e_Lok (ld_iload_12 (x_dk dn_396_1_1_ok 20 rfl)))))
  (e_Tok2
  (e_Lok (ld_aload_n_0 (x_dk dn_396_1_1_ok 21 rfl)))
  (e_Tok2
  (e_Lok (lk_12_8g ho_396 (x_dk dn_396_1_1_ok 22 rfl)))
  (e_Lok (ld_iload_10 (x_dk dn_396_1_1_ok 23 rfl))))))
  (e_Tok2
  (e_Tok2
  (e_Lok (sm_iaload (x_dk dn_396_1_1_ok 24 rfl)))
  (e_Tok2
  (e_Lok (e_st (I := eI) (er_icmpge (off := 31) (tg := 287) (x_dk dn_396_1_2_ok 0 rfl) (by decide)) nx_if2))
  (e_Lok (ld_aload_n_0 (x_dk dn_396_1_2_ok 1 rfl)))))
  (e_Tok2
  (e_Tok2
  (e_Lok (lk_12_8g ho_396 (x_dk dn_396_1_2_ok 2 rfl)))
  (e_Lok (ld_iload_10 (x_dk dn_396_1_2_ok 3 rfl))))
  (e_Tok2
  (e_Lok (ld_iload_12 (x_dk dn_396_1_2_ok 4 rfl)))
  (e_Lok (sm_iadd (x_dk dn_396_1_2_ok 5 rfl))))))))
def te_396_156 : Nat → eE := (e_T 288 (e_T 277 (e_T 272 (e_T 268 (e_L 268 (0, ei_load 0 2 269, 0, 0)) (e_T 269 (e_L 269 (0, ei_getf eft elay 12 0 272, 0, 0)) (e_L 272 (0, ei_load 10 0 274, 0, 0)))) (e_T 274 (e_L 274 (0, ei_load 12 0 276, 0, 0)) (e_T 276 (e_L 276 (0, ei_bin eF_add 277, 0, 0)) (e_L 277 (0, ei_push (0, 1) 278, 0, 0))))) (e_T 280 (e_T 278 (e_L 278 (0, ei_bin eF_add 279, 0, 0)) (e_T 279 (e_L 279 (0, ei_ald elay false 280, 0, 0)) (e_L 280 (0, ei_ast elay false 281, 0, 0)))) (e_T 284 (e_T 281 (e_L 281 (0, ei_inc 12 1 284, 0, 0)) (e_L 284 (0, ei_goto 247, 0, 0))) (e_T 287 (e_L 287 (0, ei_load 0 2 288, 0, 0)) (e_L 288 (0, ei_getf eft elay 12 0 291, 0, 0)))))) (e_T 297 (e_T 294 (e_T 291 (e_L 291 (0, ei_load 10 0 293, 0, 0)) (e_T 293 (e_L 293 (0, ei_stk ef_dup2 294, 0, 0)) (e_L 294 (0, ei_ald elay false 295, 0, 0)))) (e_T 295 (e_L 295 (0, ei_push (0, 1) 296, 0, 0)) (e_T 296 (e_L 296 (0, ei_bin eF_sub 297, 0, 0)) (e_L 297 (0, ei_ast elay false 298, 0, 0))))) (e_T 302 (e_T 298 (e_L 298 (0, ei_load 0 2 299, 0, 0)) (e_T 299 (e_L 299 (0, ei_getf eft elay 12 0 302, 0, 0)) (e_L 302 (0, ei_load 6 0 304, 0, 0)))) (e_T 307 (e_T 304 (e_L 304 (2, e_nof, 392, 1)) (e_L 307 (0, ei_push (0, 4) 308, 0, 0))) (e_T 308 (e_L 308 (0, ei_load 1 0 309, 0, 0)) (e_L 309 (0, ei_bin eF_add 310, 0, 0)))))))
set_option maxRecDepth 20000 in
set_option maxHeartbeats 4000000 in
theorem te_396_156_ok : ∀ pc, e_EOq eft cls elay eI n_396 pc (te_396_156 pc) :=
  (e_Tok2
  (e_Tok2
  (e_Tok2
  (e_Tok2
  (e_Lok (ld_aload_n_0 (x_dk dn_396_1_2_ok 6 rfl)))
  (e_Tok2
  (e_Lok (lk_12_8g ho_396 (x_dk dn_396_1_2_ok 7 rfl)))
  (e_Lok (ld_iload_10 (x_dk dn_396_1_2_ok 8 rfl)))))
  (e_Tok2
  (e_Lok (ld_iload_12 (x_dk dn_396_1_2_ok 9 rfl)))
  (e_Tok2
  (e_Lok (sm_iadd (x_dk dn_396_1_2_ok 10 rfl)))
  (e_Lok (ps_iconst_1 (x_dk dn_396_1_2_ok 11 rfl))))))
  (e_Tok2
  (e_Tok2
  (e_Lok (sm_iadd (x_dk dn_396_1_2_ok 12 rfl)))
  (e_Tok2
  (e_Lok (sm_iaload (x_dk dn_396_1_2_ok 13 rfl)))
  (e_Lok (sm_iastore (x_dk dn_396_1_2_ok 14 rfl)))))
  (e_Tok2
  (e_Tok2
  (e_Lok (e_st (I := eI) (er_iinc (i := 12) (n := 1) (x_dk dn_396_1_2_ok 15 rfl) (by decide +kernel) (by decide)) nx_inc))
  (e_Lok (e_st (I := eI) (er_goto (off := (-37)) (tg := 247) (x_dk dn_396_1_2_ok 16 rfl) (by decide)) nx_goto)))
  (e_Tok2
  (e_Lok (ld_aload_n_0 (x_dk dn_396_1_2_ok 17 rfl)))
  (e_Lok (lk_12_8g ho_396 (x_dk dn_396_1_2_ok 18 rfl)))))))
  (e_Tok2
  (e_Tok2
  (e_Tok2
  (e_Lok (ld_iload_10 (x_dk dn_396_1_2_ok 19 rfl)))
  (e_Tok2
  (e_Lok (e_st (I := eI) (er_dup2 (x_dk dn_396_1_2_ok 20 rfl)) (nx_stk bf_dup2)))
  (e_Lok (sm_iaload (x_dk dn_396_1_2_ok 21 rfl)))))
  (e_Tok2
  (e_Lok (ps_iconst_1 (x_dk dn_396_1_2_ok 22 rfl)))
  (e_Tok2
  (e_Lok (sm_isub (x_dk dn_396_1_2_ok 23 rfl)))
  (e_Lok (sm_iastore (x_dk dn_396_1_2_ok 24 rfl))))))
  (e_Tok2
  (e_Tok2
  (e_Lok (ld_aload_n_0 (x_dk dn_396_1_3_ok 0 rfl)))
  (e_Tok2
  (e_Lok (lk_12_8g ho_396 (x_dk dn_396_1_3_ok 1 rfl)))
  (e_Lok (ld_iload_6 (x_dk dn_396_1_3_ok 2 rfl)))))
  (e_Tok2
  (e_Tok2
  (e_Lok (lk_12_774 ho_396 (x_dk dn_396_1_3_ok 3 rfl)))
  (e_Lok (ps_iconst_4 (x_dk dn_396_1_3_ok 4 rfl))))
  (e_Tok2
  (e_Lok (ld_iload_n_1 (x_dk dn_396_1_3_ok 5 rfl)))
  (e_Lok (sm_iadd (x_dk dn_396_1_3_ok 6 rfl))))))))
def te_396_182 : Nat → eE := (e_T 329 (e_T 320 (e_T 312 (e_T 310 (e_L 310 (0, ei_ast elay false 311, 0, 0)) (e_T 311 (e_L 311 (0, ei_load 0 2 312, 0, 0)) (e_L 312 (0, ei_getf eft elay 12 0 315, 0, 0)))) (e_T 315 (e_L 315 (0, ei_load 6 0 317, 0, 0)) (e_T 317 (e_L 317 (2, e_nof, 392, 1)) (e_L 320 (0, ei_push (0, 3) 321, 0, 0))))) (e_T 323 (e_T 321 (e_L 321 (0, ei_bin eF_add 322, 0, 0)) (e_T 322 (e_L 322 (0, ei_push (0, 0) 323, 0, 0)) (e_L 323 (0, ei_ast elay false 324, 0, 0)))) (e_T 325 (e_T 324 (e_L 324 (0, ei_load 0 2 325, 0, 0)) (e_L 325 (0, ei_getf eft elay 12 0 328, 0, 0))) (e_T 328 (e_L 328 (0, ei_load 1 0 329, 0, 0)) (e_L 329 (2, e_nof, 268, 1)))))) (e_T 339 (e_T 334 (e_T 332 (e_L 332 (0, ei_push (0, 1) 333, 0, 0)) (e_T 333 (e_L 333 (0, ei_bin eF_add 334, 0, 0)) (e_L 334 (0, ei_load 6 0 336, 0, 0)))) (e_T 337 (e_T 336 (e_L 336 (0, ei_ast elay false 337, 0, 0)) (e_L 337 (0, ei_load 0 2 338, 0, 0))) (e_T 338 (e_L 338 (0, ei_push (0, (-1)) 339, 0, 0)) (e_L 339 (2, e_nof, 390, 2))))) (e_T 345 (e_T 342 (e_L 342 (0, ei_load 0 2 343, 0, 0)) (e_T 343 (e_L 343 (0, ei_push (0, 6) 345, 0, 0)) (e_L 345 (0, ei_load 1 0 346, 0, 0)))) (e_T 348 (e_T 346 (e_L 346 (0, ei_load 6 0 348, 0, 0)) (e_L 348 (2, e_nof, 319, 4))) (e_T 351 (e_L 351 (0, ei_push (0, 1) 352, 0, 0)) (e_L 352 (1, e_nof, 4, 0)))))))
set_option maxRecDepth 20000 in
set_option maxHeartbeats 4000000 in
theorem te_396_182_ok : ∀ pc, e_EOq eft cls elay eI n_396 pc (te_396_182 pc) :=
  (e_Tok2
  (e_Tok2
  (e_Tok2
  (e_Tok2
  (e_Lok (sm_iastore (x_dk dn_396_1_3_ok 7 rfl)))
  (e_Tok2
  (e_Lok (ld_aload_n_0 (x_dk dn_396_1_3_ok 8 rfl)))
  (e_Lok (lk_12_8g ho_396 (x_dk dn_396_1_3_ok 9 rfl)))))
  (e_Tok2
  (e_Lok (ld_iload_6 (x_dk dn_396_1_3_ok 10 rfl)))
  (e_Tok2
  (e_Lok (lk_12_774 ho_396 (x_dk dn_396_1_3_ok 11 rfl)))
  (e_Lok (ps_iconst_3 (x_dk dn_396_1_3_ok 12 rfl))))))
  (e_Tok2
  (e_Tok2
  (e_Lok (sm_iadd (x_dk dn_396_1_3_ok 13 rfl)))
  (e_Tok2
  (e_Lok (ps_iconst_0 (x_dk dn_396_1_3_ok 14 rfl)))
  (e_Lok (sm_iastore (x_dk dn_396_1_3_ok 15 rfl)))))
  (e_Tok2
  (e_Tok2
  (e_Lok (ld_aload_n_0 (x_dk dn_396_1_3_ok 16 rfl)))
  (e_Lok (lk_12_8g ho_396 (x_dk dn_396_1_3_ok 17 rfl))))
  (e_Tok2
  (e_Lok (ld_iload_n_1 (x_dk dn_396_1_3_ok 18 rfl)))
  (e_Lok (lk_12_294 ho_396 (x_dk dn_396_1_3_ok 19 rfl)))))))
  (e_Tok2
  (e_Tok2
  (e_Tok2
  (e_Lok (ps_iconst_1 (x_dk dn_396_1_3_ok 20 rfl)))
  (e_Tok2
  (e_Lok (sm_iadd (x_dk dn_396_1_3_ok 21 rfl)))
  (e_Lok (ld_iload_6 (x_dk dn_396_1_3_ok 22 rfl)))))
  (e_Tok2
  (e_Tok2
  (e_Lok (sm_iastore (x_dk dn_396_1_3_ok 23 rfl)))
  (e_Lok (ld_aload_n_0 (x_dk dn_396_1_3_ok 24 rfl))))
  (e_Tok2
  (e_Lok (ps_iconst_m1 (x_dk dn_396_2_0_ok 0 rfl)))
  (e_Lok (lk_12_762 ho_396 (x_dk dn_396_2_0_ok 1 rfl))))))
  (e_Tok2
  (e_Tok2
  (e_Lok (ld_aload_n_0 (x_dk dn_396_2_0_ok 2 rfl)))
  (e_Tok2
  (e_Lok (ps_bipush_6 (x_dk dn_396_2_0_ok 3 rfl)))
  (e_Lok (ld_iload_n_1 (x_dk dn_396_2_0_ok 4 rfl)))))
  (e_Tok2
  (e_Tok2
  (e_Lok (ld_iload_6 (x_dk dn_396_2_0_ok 5 rfl)))
  (e_Lok (lk_12_693 ho_396 (x_dk dn_396_2_0_ok 6 rfl))))
  (e_Tok2
  (e_Lok (ps_iconst_1 (x_dk dn_396_2_0_ok 7 rfl)))
  (e_Lok (e_rt (I := eI) (k := 4) ⟨(x_dk dn_396_2_0_ok 8 rfl), rfl⟩)))))))
def te_396 : Nat → eE := (e_T 165 (e_T 75 (e_T 38 te_396_0 te_396_26) (e_T 122 te_396_52 te_396_78)) (e_T 267 (e_T 216 te_396_104 te_396_130) (e_T 309 te_396_156 te_396_182)))
theorem te_396_ok : ∀ pc, e_EOq eft cls elay eI n_396 pc (te_396 pc) := (e_Tok2 ((e_Tok2 ((e_Tok2 (te_396_0_ok) (te_396_26_ok))) ((e_Tok2 (te_396_52_ok) (te_396_78_ok))))) ((e_Tok2 ((e_Tok2 (te_396_104_ok) (te_396_130_ok))) ((e_Tok2 (te_396_156_ok) (te_396_182_ok))))))
end
end
