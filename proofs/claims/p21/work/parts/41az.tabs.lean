noncomputable section
theorem ho_350 : (xm_y n_350).cls = "RobotCellHouseModel" := rfl
def dn_350_0_0 : List (Nat × Instr × Nat) := [(0, .aload_n 0, 1), (1, .invokevirtual 578, 3), (4, .aload_n 0, 1), (5, .bipush 30, 2), (7, .iconst 0, 1), (8, .invokevirtual 565, 3), (11, .pop, 1), (12, .aload_n 0, 1), (13, .aload_n 0, 1), (14, .bipush 18, 2), (16, .invokevirtual 562, 3), (19, .invokevirtual 555, 3), (22, .aload_n 0, 1), (23, .invokevirtual 592, 3), (26, .aload_n 0, 1), (27, .aload_n 0, 1), (28, .bipush 58, 2), (30, .invokevirtual 586, 3), (33, .invokevirtual 555, 3), (36, .aload_n 0, 1), (37, .bipush 47, 2), (39, .iconst 0, 1), (40, .invokevirtual 565, 3), (43, .istore_n 1, 1), (44, .aload_n 0, 1)]
set_option maxRecDepth 20000 in
theorem dn_350_0_0_ok : dn_350_0_0.all (fun q => decide (decode (xm_b n_350) q.1 = .ok (q.2.1, q.2.2))) = true := xa_g_ok (by decide +kernel)
def dn_350_0_1 : List (Nat × Instr × Nat) := [(45, .invokevirtual 623, 3), (48, .aload_n 0, 1), (49, .getfield 530, 3), (52, .ifCond .ne 51, 3), (55, .aload_n 0, 1), (56, .bipush 19, 2), (58, .invokevirtual 562, 3), (61, .ifCond .eq 42, 3), (64, .aload_n 0, 1), (65, .invokevirtual 536, 3), (68, .aload_n 0, 1), (69, .aload_n 0, 1), (70, .bipush 58, 2), (72, .invokevirtual 586, 3), (75, .invokevirtual 555, 3), (78, .aload_n 0, 1), (79, .bipush 48, 2), (81, .iconst 0, 1), (82, .invokevirtual 565, 3), (85, .istore_n 2, 1), (86, .aload_n 0, 1), (87, .iload_n 1, 1), (88, .invokevirtual 575, 3), (91, .aload_n 0, 1), (92, .invokevirtual 623, 3)]
set_option maxRecDepth 20000 in
theorem dn_350_0_1_ok : dn_350_0_1.all (fun q => decide (decode (xm_b n_350) q.1 = .ok (q.2.1, q.2.2))) = true := xa_g_ok (by decide +kernel)
def dn_350_0_2 : List (Nat × Instr × Nat) := [(95, .aload_n 0, 1), (96, .iload_n 2, 1), (97, .invokevirtual 575, 3), (100, .goto 8, 3), (103, .aload_n 0, 1), (104, .iload_n 1, 1), (105, .invokevirtual 575, 3), (108, .aload_n 0, 1), (109, .aload_n 0, 1), (110, .iconst 2, 1), (111, .invokevirtual 562, 3), (114, .invokevirtual 555, 3), (117, .aload_n 0, 1), (118, .dup, 1), (119, .getfield 542, 3), (122, .iconst 1, 1), (123, .isub, 1), (124, .putfield 542, 3), (127, .return_, 1)]
set_option maxRecDepth 20000 in
theorem dn_350_0_2_ok : dn_350_0_2.all (fun q => decide (decode (xm_b n_350) q.1 = .ok (q.2.1, q.2.2))) = true := xa_g_ok (by decide +kernel)
def te_350_0 : Nat → eE := (e_T 28 (e_T 12 (e_T 5 (e_T 1 (e_T 0 (e_L 0 (0, ei_load 0 2 1, 0, 0)) (e_L 1 (2, e_nof, 335, 1))) (e_T 4 (e_L 4 (0, ei_load 0 2 5, 0, 0)) (e_L 5 (0, ei_push (0, 30) 7, 0, 0)))) (e_T 8 (e_T 7 (e_L 7 (0, ei_push (0, 0) 8, 0, 0)) (e_L 8 (2, e_nof, 336, 3))) (e_T 11 (e_L 11 (0, ei_stk ef_pop 12, 0, 0)) (e_L 12 (0, ei_load 0 2 13, 0, 0))))) (e_T 19 (e_T 14 (e_T 13 (e_L 13 (0, ei_load 0 2 14, 0, 0)) (e_L 14 (0, ei_push (0, 18) 16, 0, 0))) (e_T 16 (e_L 16 (2, e_nof, 332, 2)) (e_L 19 (2, e_nof, 334, 2)))) (e_T 23 (e_T 22 (e_L 22 (0, ei_load 0 2 23, 0, 0)) (e_L 23 (2, e_nof, 339, 1))) (e_T 26 (e_L 26 (0, ei_load 0 2 27, 0, 0)) (e_T 27 (e_L 27 (0, ei_load 0 2 28, 0, 0)) (e_L 28 (0, ei_push (0, 58) 30, 0, 0))))))) (e_T 44 (e_T 37 (e_T 33 (e_T 30 (e_L 30 (2, e_nof, 331, 2)) (e_L 33 (2, e_nof, 334, 2))) (e_T 36 (e_L 36 (0, ei_load 0 2 37, 0, 0)) (e_L 37 (0, ei_push (0, 47) 39, 0, 0)))) (e_T 40 (e_T 39 (e_L 39 (0, ei_push (0, 0) 40, 0, 0)) (e_L 40 (2, e_nof, 336, 3))) (e_T 43 (e_L 43 (0, ei_stor 1 0 44, 0, 0)) (e_L 44 (0, ei_load 0 2 45, 0, 0))))) (e_T 52 (e_T 48 (e_T 45 (e_L 45 (2, e_nof, 348, 1)) (e_L 48 (0, ei_load 0 2 49, 0, 0))) (e_T 49 (e_L 49 (0, ei_getf eft elay 12 88 52, 0, 0)) (e_L 52 (0, ei_if1 1 103 55, 0, 0)))) (e_T 56 (e_T 55 (e_L 55 (0, ei_load 0 2 56, 0, 0)) (e_L 56 (0, ei_push (0, 19) 58, 0, 0))) (e_T 58 (e_L 58 (2, e_nof, 332, 2)) (e_T 61 (e_L 61 (0, ei_if1 0 103 64, 0, 0)) (e_L 64 (0, ei_load 0 2 65, 0, 0))))))))
set_option maxRecDepth 20000 in
set_option maxHeartbeats 4000000 in
theorem te_350_0_ok : ∀ pc, e_EOq eft cls elay eI n_350 pc (te_350_0 pc) :=
  (e_Tok2
  (e_Tok2
  (e_Tok2
  (e_Tok2
  (e_Tok2
  (e_Lok (ld_aload_n_0 (x_dk dn_350_0_0_ok 0 rfl)))
  (e_Lok (lk_12_578 ho_350 (x_dk dn_350_0_0_ok 1 rfl))))
  (e_Tok2
  (e_Lok (ld_aload_n_0 (x_dk dn_350_0_0_ok 2 rfl)))
  (e_Lok (ps_bipush_30 (x_dk dn_350_0_0_ok 3 rfl)))))
  (e_Tok2
  (e_Tok2
  (e_Lok (ps_iconst_0 (x_dk dn_350_0_0_ok 4 rfl)))
  (e_Lok (lk_12_565 ho_350 (x_dk dn_350_0_0_ok 5 rfl))))
  (e_Tok2
  (e_Lok (e_st (I := eI) (er_pop (x_dk dn_350_0_0_ok 6 rfl)) (nx_stk bf_pop)))
  (e_Lok (ld_aload_n_0 (x_dk dn_350_0_0_ok 7 rfl))))))
  (e_Tok2
  (e_Tok2
  (e_Tok2
  (e_Lok (ld_aload_n_0 (x_dk dn_350_0_0_ok 8 rfl)))
  (e_Lok (ps_bipush_18 (x_dk dn_350_0_0_ok 9 rfl))))
  (e_Tok2
  (e_Lok (lk_12_562 ho_350 (x_dk dn_350_0_0_ok 10 rfl)))
  (e_Lok (lk_12_555 ho_350 (x_dk dn_350_0_0_ok 11 rfl)))))
  (e_Tok2
  (e_Tok2
  (e_Lok (ld_aload_n_0 (x_dk dn_350_0_0_ok 12 rfl)))
  (e_Lok (lk_12_592 ho_350 (x_dk dn_350_0_0_ok 13 rfl))))
  (e_Tok2
  (e_Lok (ld_aload_n_0 (x_dk dn_350_0_0_ok 14 rfl)))
  (e_Tok2
  (e_Lok (ld_aload_n_0 (x_dk dn_350_0_0_ok 15 rfl)))
  (e_Lok (ps_bipush_58 (x_dk dn_350_0_0_ok 16 rfl))))))))
  (e_Tok2
  (e_Tok2
  (e_Tok2
  (e_Tok2
  (e_Lok (lk_12_586 ho_350 (x_dk dn_350_0_0_ok 17 rfl)))
  (e_Lok (lk_12_555 ho_350 (x_dk dn_350_0_0_ok 18 rfl))))
  (e_Tok2
  (e_Lok (ld_aload_n_0 (x_dk dn_350_0_0_ok 19 rfl)))
  (e_Lok (ps_bipush_47 (x_dk dn_350_0_0_ok 20 rfl)))))
  (e_Tok2
  (e_Tok2
  (e_Lok (ps_iconst_0 (x_dk dn_350_0_0_ok 21 rfl)))
  (e_Lok (lk_12_565 ho_350 (x_dk dn_350_0_0_ok 22 rfl))))
  (e_Tok2
  (e_Lok (e_st (I := eI) (er_istore_n (i := 1) (x_dk dn_350_0_0_ok 23 rfl) (by decide +kernel)) nx_stor))
  (e_Lok (ld_aload_n_0 (x_dk dn_350_0_0_ok 24 rfl))))))
  (e_Tok2
  (e_Tok2
  (e_Tok2
  (e_Lok (lk_12_623 ho_350 (x_dk dn_350_0_1_ok 0 rfl)))
  (e_Lok (ld_aload_n_0 (x_dk dn_350_0_1_ok 1 rfl))))
  (e_Tok2
  (e_Lok (lk_12_530g ho_350 (x_dk dn_350_0_1_ok 2 rfl)))
  (e_Lok (e_st (I := eI) (er_ifne (off := 51) (tg := 103) (x_dk dn_350_0_1_ok 3 rfl) (by decide)) nx_if1))))
  (e_Tok2
  (e_Tok2
  (e_Lok (ld_aload_n_0 (x_dk dn_350_0_1_ok 4 rfl)))
  (e_Lok (ps_bipush_19 (x_dk dn_350_0_1_ok 5 rfl))))
  (e_Tok2
  (e_Lok (lk_12_562 ho_350 (x_dk dn_350_0_1_ok 6 rfl)))
  (e_Tok2
  (e_Lok (e_st (I := eI) (er_ifeq (off := 42) (tg := 103) (x_dk dn_350_0_1_ok 7 rfl) (by decide)) nx_if1))
  (e_Lok (ld_aload_n_0 (x_dk dn_350_0_1_ok 8 rfl)))))))))
def te_350_34 : Nat → eE := (e_T 95 (e_T 79 (e_T 70 (e_T 68 (e_T 65 (e_L 65 (2, e_nof, 327, 1)) (e_L 68 (0, ei_load 0 2 69, 0, 0))) (e_T 69 (e_L 69 (0, ei_load 0 2 70, 0, 0)) (e_L 70 (0, ei_push (0, 58) 72, 0, 0)))) (e_T 75 (e_T 72 (e_L 72 (2, e_nof, 331, 2)) (e_L 75 (2, e_nof, 334, 2))) (e_T 78 (e_L 78 (0, ei_load 0 2 79, 0, 0)) (e_L 79 (0, ei_push (0, 48) 81, 0, 0))))) (e_T 86 (e_T 82 (e_T 81 (e_L 81 (0, ei_push (0, 0) 82, 0, 0)) (e_L 82 (2, e_nof, 336, 3))) (e_T 85 (e_L 85 (0, ei_stor 2 0 86, 0, 0)) (e_L 86 (0, ei_load 0 2 87, 0, 0)))) (e_T 88 (e_T 87 (e_L 87 (0, ei_load 1 0 88, 0, 0)) (e_L 88 (2, e_nof, 337, 2))) (e_T 91 (e_L 91 (0, ei_load 0 2 92, 0, 0)) (e_T 92 (e_L 92 (2, e_nof, 348, 1)) (e_L 95 (0, ei_load 0 2 96, 0, 0))))))) (e_T 110 (e_T 103 (e_T 97 (e_T 96 (e_L 96 (0, ei_load 2 0 97, 0, 0)) (e_L 97 (2, e_nof, 337, 2))) (e_T 100 (e_L 100 (0, ei_goto 108, 0, 0)) (e_L 103 (0, ei_load 0 2 104, 0, 0)))) (e_T 105 (e_T 104 (e_L 104 (0, ei_load 1 0 105, 0, 0)) (e_L 105 (2, e_nof, 337, 2))) (e_T 108 (e_L 108 (0, ei_load 0 2 109, 0, 0)) (e_T 109 (e_L 109 (0, ei_load 0 2 110, 0, 0)) (e_L 110 (0, ei_push (0, 2) 111, 0, 0)))))) (e_T 118 (e_T 114 (e_T 111 (e_L 111 (2, e_nof, 332, 2)) (e_L 114 (2, e_nof, 334, 2))) (e_T 117 (e_L 117 (0, ei_load 0 2 118, 0, 0)) (e_L 118 (0, ei_stk ef_dup 119, 0, 0)))) (e_T 122 (e_T 119 (e_L 119 (0, ei_getf eft elay 12 83 122, 0, 0)) (e_L 122 (0, ei_push (0, 1) 123, 0, 0))) (e_T 123 (e_L 123 (0, ei_bin eF_sub 124, 0, 0)) (e_T 124 (e_L 124 (0, ei_putf eft elay 12 83 0 127, 0, 0)) (e_L 127 (1, e_nof, 0, 0))))))))
set_option maxRecDepth 20000 in
set_option maxHeartbeats 4000000 in
theorem te_350_34_ok : ∀ pc, e_EOq eft cls elay eI n_350 pc (te_350_34 pc) :=
  (e_Tok2
  (e_Tok2
  (e_Tok2
  (e_Tok2
  (e_Tok2
  (e_Lok (lk_12_536 ho_350 (x_dk dn_350_0_1_ok 9 rfl)))
  (e_Lok (ld_aload_n_0 (x_dk dn_350_0_1_ok 10 rfl))))
  (e_Tok2
  (e_Lok (ld_aload_n_0 (x_dk dn_350_0_1_ok 11 rfl)))
  (e_Lok (ps_bipush_58 (x_dk dn_350_0_1_ok 12 rfl)))))
  (e_Tok2
  (e_Tok2
  (e_Lok (lk_12_586 ho_350 (x_dk dn_350_0_1_ok 13 rfl)))
  (e_Lok (lk_12_555 ho_350 (x_dk dn_350_0_1_ok 14 rfl))))
  (e_Tok2
  (e_Lok (ld_aload_n_0 (x_dk dn_350_0_1_ok 15 rfl)))
  (e_Lok (ps_bipush_48 (x_dk dn_350_0_1_ok 16 rfl))))))
  (e_Tok2
  (e_Tok2
  (e_Tok2
  (e_Lok (ps_iconst_0 (x_dk dn_350_0_1_ok 17 rfl)))
  (e_Lok (lk_12_565 ho_350 (x_dk dn_350_0_1_ok 18 rfl))))
  (e_Tok2
  (e_Lok (e_st (I := eI) (er_istore_n (i := 2) (x_dk dn_350_0_1_ok 19 rfl) (by decide +kernel)) nx_stor))
  (e_Lok (ld_aload_n_0 (x_dk dn_350_0_1_ok 20 rfl)))))
  (e_Tok2
  (e_Tok2
  (e_Lok (ld_iload_n_1 (x_dk dn_350_0_1_ok 21 rfl)))
  (e_Lok (lk_12_575 ho_350 (x_dk dn_350_0_1_ok 22 rfl))))
  (e_Tok2
  (e_Lok (ld_aload_n_0 (x_dk dn_350_0_1_ok 23 rfl)))
  (e_Tok2
  (e_Lok (lk_12_623 ho_350 (x_dk dn_350_0_1_ok 24 rfl)))
  (e_Lok (ld_aload_n_0 (x_dk dn_350_0_2_ok 0 rfl))))))))
  (e_Tok2
  (e_Tok2
  (e_Tok2
  (e_Tok2
  (e_Lok (ld_iload_n_2 (x_dk dn_350_0_2_ok 1 rfl)))
  (e_Lok (lk_12_575 ho_350 (x_dk dn_350_0_2_ok 2 rfl))))
  (e_Tok2
  (e_Lok (e_st (I := eI) (er_goto (off := 8) (tg := 108) (x_dk dn_350_0_2_ok 3 rfl) (by decide)) nx_goto))
  (e_Lok (ld_aload_n_0 (x_dk dn_350_0_2_ok 4 rfl)))))
  (e_Tok2
  (e_Tok2
  (e_Lok (ld_iload_n_1 (x_dk dn_350_0_2_ok 5 rfl)))
  (e_Lok (lk_12_575 ho_350 (x_dk dn_350_0_2_ok 6 rfl))))
  (e_Tok2
  (e_Lok (ld_aload_n_0 (x_dk dn_350_0_2_ok 7 rfl)))
  (e_Tok2
  (e_Lok (ld_aload_n_0 (x_dk dn_350_0_2_ok 8 rfl)))
  (e_Lok (ps_iconst_2 (x_dk dn_350_0_2_ok 9 rfl)))))))
  (e_Tok2
  (e_Tok2
  (e_Tok2
  (e_Lok (lk_12_562 ho_350 (x_dk dn_350_0_2_ok 10 rfl)))
  (e_Lok (lk_12_555 ho_350 (x_dk dn_350_0_2_ok 11 rfl))))
  (e_Tok2
  (e_Lok (ld_aload_n_0 (x_dk dn_350_0_2_ok 12 rfl)))
  (e_Lok (e_st (I := eI) (er_dup (x_dk dn_350_0_2_ok 13 rfl)) (nx_stk bf_dup)))))
  (e_Tok2
  (e_Tok2
  (e_Lok (lk_12_542g ho_350 (x_dk dn_350_0_2_ok 14 rfl)))
  (e_Lok (ps_iconst_1 (x_dk dn_350_0_2_ok 15 rfl))))
  (e_Tok2
  (e_Lok (sm_isub (x_dk dn_350_0_2_ok 16 rfl)))
  (e_Tok2
  (e_Lok (lk_12_542p ho_350 (x_dk dn_350_0_2_ok 17 rfl)))
  (e_Lok (e_rt (I := eI) (k := 0) ⟨(x_dk dn_350_0_2_ok 18 rfl), rfl⟩))))))))
def te_350 : Nat → eE := (e_T 64 te_350_0 te_350_34)
theorem te_350_ok : ∀ pc, e_EOq eft cls elay eI n_350 pc (te_350 pc) := (e_Tok2 (te_350_0_ok) (te_350_34_ok))
theorem ho_351 : (xm_y n_351).cls = "RobotCellHouseModel" := rfl
def dn_351_0_0 : List (Nat × Instr × Nat) := [(0, .aload_n 0, 1), (1, .invokevirtual 578, 3), (4, .aload_n 0, 1), (5, .getfield 626, 3), (8, .istore_n 1, 1), (9, .aload_n 0, 1), (10, .dup, 1), (11, .getfield 626, 3), (14, .iconst 1, 1), (15, .iadd, 1), (16, .putfield 626, 3), (19, .aload_n 0, 1), (20, .getfield 620, 3), (23, .istore_n 2, 1), (24, .aload_n 0, 1), (25, .getfield 192, 3), (28, .sipush 3600, 3), (31, .iload_n 1, 1), (32, .iadd, 1), (33, .aload_n 0, 1), (34, .getfield 549, 3), (37, .iastore, 1), (38, .aload_n 0, 1), (39, .bipush 30, 2), (41, .iconst 0, 1)]
set_option maxRecDepth 20000 in
theorem dn_351_0_0_ok : dn_351_0_0.all (fun q => decide (decode (xm_b n_351) q.1 = .ok (q.2.1, q.2.2))) = true := xa_g_ok (by decide +kernel)
def dn_351_0_1 : List (Nat × Instr × Nat) := [(42, .invokevirtual 565, 3), (45, .istore_n 3, 1), (46, .aload_n 0, 1), (47, .aload_n 0, 1), (48, .bipush 20, 2), (50, .invokevirtual 562, 3), (53, .invokevirtual 555, 3), (56, .aload_n 0, 1), (57, .invokevirtual 592, 3), (60, .aload_n 0, 1), (61, .aload_n 0, 1), (62, .bipush 58, 2), (64, .invokevirtual 586, 3), (67, .invokevirtual 555, 3), (70, .aload_n 0, 1), (71, .bipush 47, 2), (73, .iconst 0, 1), (74, .invokevirtual 565, 3), (77, .istore 4, 2), (79, .aload_n 0, 1), (80, .iload_n 1, 1), (81, .putfield 620, 3), (84, .aload_n 0, 1), (85, .invokevirtual 623, 3), (88, .aload_n 0, 1)]
set_option maxRecDepth 20000 in
theorem dn_351_0_1_ok : dn_351_0_1.all (fun q => decide (decode (xm_b n_351) q.1 = .ok (q.2.1, q.2.2))) = true := xa_g_ok (by decide +kernel)
def dn_351_0_2 : List (Nat × Instr × Nat) := [(89, .iload_n 2, 1), (90, .putfield 620, 3), (93, .aload_n 0, 1), (94, .bipush 48, 2), (96, .iload_n 3, 1), (97, .invokevirtual 565, 3), (100, .pop, 1), (101, .aload_n 0, 1), (102, .iload 4, 2), (104, .invokevirtual 575, 3), (107, .aload_n 0, 1), (108, .getfield 195, 3), (111, .sipush 3600, 3), (114, .iload_n 1, 1), (115, .iadd, 1), (116, .aload_n 0, 1), (117, .getfield 546, 3), (120, .iastore, 1), (121, .aload_n 0, 1), (122, .aload_n 0, 1), (123, .iconst 2, 1), (124, .invokevirtual 562, 3), (127, .invokevirtual 555, 3), (130, .aload_n 0, 1), (131, .dup, 1)]
set_option maxRecDepth 20000 in
theorem dn_351_0_2_ok : dn_351_0_2.all (fun q => decide (decode (xm_b n_351) q.1 = .ok (q.2.1, q.2.2))) = true := xa_g_ok (by decide +kernel)
def dn_351_0_3 : List (Nat × Instr × Nat) := [(132, .getfield 542, 3), (135, .iconst 1, 1), (136, .isub, 1), (137, .putfield 542, 3), (140, .return_, 1)]
set_option maxRecDepth 20000 in
theorem dn_351_0_3_ok : dn_351_0_3.all (fun q => decide (decode (xm_b n_351) q.1 = .ok (q.2.1, q.2.2))) = true := xa_g_ok (by decide +kernel)
def te_351_0 : Nat → eE := (e_T 33 (e_T 15 (e_T 8 (e_T 1 (e_T 0 (e_L 0 (0, ei_load 0 2 1, 0, 0)) (e_L 1 (2, e_nof, 335, 1))) (e_T 4 (e_L 4 (0, ei_load 0 2 5, 0, 0)) (e_T 5 (e_L 5 (0, ei_getf eft elay 12 80 8, 0, 0)) (e_L 8 (0, ei_stor 1 0 9, 0, 0))))) (e_T 10 (e_T 9 (e_L 9 (0, ei_load 0 2 10, 0, 0)) (e_L 10 (0, ei_stk ef_dup 11, 0, 0))) (e_T 11 (e_L 11 (0, ei_getf eft elay 12 80 14, 0, 0)) (e_T 14 (e_L 14 (0, ei_push (0, 1) 15, 0, 0)) (e_L 15 (0, ei_bin eF_add 16, 0, 0)))))) (e_T 24 (e_T 19 (e_T 16 (e_L 16 (0, ei_putf eft elay 12 80 0 19, 0, 0)) (e_L 19 (0, ei_load 0 2 20, 0, 0))) (e_T 20 (e_L 20 (0, ei_getf eft elay 12 82 23, 0, 0)) (e_T 23 (e_L 23 (0, ei_stor 2 0 24, 0, 0)) (e_L 24 (0, ei_load 0 2 25, 0, 0))))) (e_T 28 (e_T 25 (e_L 25 (0, ei_getf eft elay 12 72 28, 0, 0)) (e_L 28 (0, ei_push (0, 3600) 31, 0, 0))) (e_T 31 (e_L 31 (0, ei_load 1 0 32, 0, 0)) (e_T 32 (e_L 32 (0, ei_bin eF_add 33, 0, 0)) (e_L 33 (0, ei_load 0 2 34, 0, 0))))))) (e_T 48 (e_T 41 (e_T 37 (e_T 34 (e_L 34 (0, ei_getf eft elay 12 81 37, 0, 0)) (e_L 37 (0, ei_ast elay false 38, 0, 0))) (e_T 38 (e_L 38 (0, ei_load 0 2 39, 0, 0)) (e_T 39 (e_L 39 (0, ei_push (0, 30) 41, 0, 0)) (e_L 41 (0, ei_push (0, 0) 42, 0, 0))))) (e_T 45 (e_T 42 (e_L 42 (2, e_nof, 336, 3)) (e_L 45 (0, ei_stor 3 0 46, 0, 0))) (e_T 46 (e_L 46 (0, ei_load 0 2 47, 0, 0)) (e_T 47 (e_L 47 (0, ei_load 0 2 48, 0, 0)) (e_L 48 (0, ei_push (0, 20) 50, 0, 0)))))) (e_T 60 (e_T 53 (e_T 50 (e_L 50 (2, e_nof, 332, 2)) (e_L 53 (2, e_nof, 334, 2))) (e_T 56 (e_L 56 (0, ei_load 0 2 57, 0, 0)) (e_T 57 (e_L 57 (2, e_nof, 339, 1)) (e_L 60 (0, ei_load 0 2 61, 0, 0))))) (e_T 62 (e_T 61 (e_L 61 (0, ei_load 0 2 62, 0, 0)) (e_L 62 (0, ei_push (0, 58) 64, 0, 0))) (e_T 64 (e_L 64 (2, e_nof, 331, 2)) (e_T 67 (e_L 67 (2, e_nof, 334, 2)) (e_L 70 (0, ei_load 0 2 71, 0, 0))))))))
set_option maxRecDepth 20000 in
set_option maxHeartbeats 4000000 in
theorem te_351_0_ok : ∀ pc, e_EOq eft cls elay eI n_351 pc (te_351_0 pc) :=
  (e_Tok2
  (e_Tok2
  (e_Tok2
  (e_Tok2
  (e_Tok2
  (e_Lok (ld_aload_n_0 (x_dk dn_351_0_0_ok 0 rfl)))
  (e_Lok (lk_12_578 ho_351 (x_dk dn_351_0_0_ok 1 rfl))))
  (e_Tok2
  (e_Lok (ld_aload_n_0 (x_dk dn_351_0_0_ok 2 rfl)))
  (e_Tok2
  (e_Lok (lk_12_626g ho_351 (x_dk dn_351_0_0_ok 3 rfl)))
  (e_Lok (e_st (I := eI) (er_istore_n (i := 1) (x_dk dn_351_0_0_ok 4 rfl) (by decide +kernel)) nx_stor)))))
  (e_Tok2
  (e_Tok2
  (e_Lok (ld_aload_n_0 (x_dk dn_351_0_0_ok 5 rfl)))
  (e_Lok (e_st (I := eI) (er_dup (x_dk dn_351_0_0_ok 6 rfl)) (nx_stk bf_dup))))
  (e_Tok2
  (e_Lok (lk_12_626g ho_351 (x_dk dn_351_0_0_ok 7 rfl)))
  (e_Tok2
  (e_Lok (ps_iconst_1 (x_dk dn_351_0_0_ok 8 rfl)))
  (e_Lok (sm_iadd (x_dk dn_351_0_0_ok 9 rfl)))))))
  (e_Tok2
  (e_Tok2
  (e_Tok2
  (e_Lok (lk_12_626p ho_351 (x_dk dn_351_0_0_ok 10 rfl)))
  (e_Lok (ld_aload_n_0 (x_dk dn_351_0_0_ok 11 rfl))))
  (e_Tok2
  (e_Lok (lk_12_620g ho_351 (x_dk dn_351_0_0_ok 12 rfl)))
  (e_Tok2
  (e_Lok (e_st (I := eI) (er_istore_n (i := 2) (x_dk dn_351_0_0_ok 13 rfl) (by decide +kernel)) nx_stor))
  (e_Lok (ld_aload_n_0 (x_dk dn_351_0_0_ok 14 rfl))))))
  (e_Tok2
  (e_Tok2
  (e_Lok (lk_12_192g ho_351 (x_dk dn_351_0_0_ok 15 rfl)))
  (e_Lok (ps_sipush_3600 (x_dk dn_351_0_0_ok 16 rfl))))
  (e_Tok2
  (e_Lok (ld_iload_n_1 (x_dk dn_351_0_0_ok 17 rfl)))
  (e_Tok2
  (e_Lok (sm_iadd (x_dk dn_351_0_0_ok 18 rfl)))
  (e_Lok (ld_aload_n_0 (x_dk dn_351_0_0_ok 19 rfl))))))))
  (e_Tok2
  (e_Tok2
  (e_Tok2
  (e_Tok2
  (e_Lok (lk_12_549g ho_351 (x_dk dn_351_0_0_ok 20 rfl)))
  (e_Lok (sm_iastore (x_dk dn_351_0_0_ok 21 rfl))))
  (e_Tok2
  (e_Lok (ld_aload_n_0 (x_dk dn_351_0_0_ok 22 rfl)))
  (e_Tok2
  (e_Lok (ps_bipush_30 (x_dk dn_351_0_0_ok 23 rfl)))
  (e_Lok (ps_iconst_0 (x_dk dn_351_0_0_ok 24 rfl))))))
  (e_Tok2
  (e_Tok2
  (e_Lok (lk_12_565 ho_351 (x_dk dn_351_0_1_ok 0 rfl)))
  (e_Lok (e_st (I := eI) (er_istore_n (i := 3) (x_dk dn_351_0_1_ok 1 rfl) (by decide +kernel)) nx_stor)))
  (e_Tok2
  (e_Lok (ld_aload_n_0 (x_dk dn_351_0_1_ok 2 rfl)))
  (e_Tok2
  (e_Lok (ld_aload_n_0 (x_dk dn_351_0_1_ok 3 rfl)))
  (e_Lok (ps_bipush_20 (x_dk dn_351_0_1_ok 4 rfl)))))))
  (e_Tok2
  (e_Tok2
  (e_Tok2
  (e_Lok (lk_12_562 ho_351 (x_dk dn_351_0_1_ok 5 rfl)))
  (e_Lok (lk_12_555 ho_351 (x_dk dn_351_0_1_ok 6 rfl))))
  (e_Tok2
  (e_Lok (ld_aload_n_0 (x_dk dn_351_0_1_ok 7 rfl)))
  (e_Tok2
  (e_Lok (lk_12_592 ho_351 (x_dk dn_351_0_1_ok 8 rfl)))
  (e_Lok (ld_aload_n_0 (x_dk dn_351_0_1_ok 9 rfl))))))
  (e_Tok2
  (e_Tok2
  (e_Lok (ld_aload_n_0 (x_dk dn_351_0_1_ok 10 rfl)))
  (e_Lok (ps_bipush_58 (x_dk dn_351_0_1_ok 11 rfl))))
  (e_Tok2
  (e_Lok (lk_12_586 ho_351 (x_dk dn_351_0_1_ok 12 rfl)))
  (e_Tok2
  (e_Lok (lk_12_555 ho_351 (x_dk dn_351_0_1_ok 13 rfl)))
  (e_Lok (ld_aload_n_0 (x_dk dn_351_0_1_ok 14 rfl)))))))))
def te_351_40 : Nat → eE := (e_T 104 (e_T 88 (e_T 79 (e_T 73 (e_T 71 (e_L 71 (0, ei_push (0, 47) 73, 0, 0)) (e_L 73 (0, ei_push (0, 0) 74, 0, 0))) (e_T 74 (e_L 74 (2, e_nof, 336, 3)) (e_T 77 (e_L 77 (0, ei_stor 4 0 79, 0, 0)) (e_L 79 (0, ei_load 0 2 80, 0, 0))))) (e_T 81 (e_T 80 (e_L 80 (0, ei_load 1 0 81, 0, 0)) (e_L 81 (0, ei_putf eft elay 12 82 0 84, 0, 0))) (e_T 84 (e_L 84 (0, ei_load 0 2 85, 0, 0)) (e_T 85 (e_L 85 (2, e_nof, 348, 1)) (e_L 88 (0, ei_load 0 2 89, 0, 0)))))) (e_T 96 (e_T 90 (e_T 89 (e_L 89 (0, ei_load 2 0 90, 0, 0)) (e_L 90 (0, ei_putf eft elay 12 82 0 93, 0, 0))) (e_T 93 (e_L 93 (0, ei_load 0 2 94, 0, 0)) (e_T 94 (e_L 94 (0, ei_push (0, 48) 96, 0, 0)) (e_L 96 (0, ei_load 3 0 97, 0, 0))))) (e_T 100 (e_T 97 (e_L 97 (2, e_nof, 336, 3)) (e_L 100 (0, ei_stk ef_pop 101, 0, 0))) (e_T 101 (e_L 101 (0, ei_load 0 2 102, 0, 0)) (e_T 102 (e_L 102 (0, ei_load 4 0 104, 0, 0)) (e_L 104 (2, e_nof, 337, 2))))))) (e_T 122 (e_T 115 (e_T 108 (e_T 107 (e_L 107 (0, ei_load 0 2 108, 0, 0)) (e_L 108 (0, ei_getf eft elay 12 73 111, 0, 0))) (e_T 111 (e_L 111 (0, ei_push (0, 3600) 114, 0, 0)) (e_T 114 (e_L 114 (0, ei_load 1 0 115, 0, 0)) (e_L 115 (0, ei_bin eF_add 116, 0, 0))))) (e_T 117 (e_T 116 (e_L 116 (0, ei_load 0 2 117, 0, 0)) (e_L 117 (0, ei_getf eft elay 12 78 120, 0, 0))) (e_T 120 (e_L 120 (0, ei_ast elay false 121, 0, 0)) (e_T 121 (e_L 121 (0, ei_load 0 2 122, 0, 0)) (e_L 122 (0, ei_load 0 2 123, 0, 0)))))) (e_T 131 (e_T 124 (e_T 123 (e_L 123 (0, ei_push (0, 2) 124, 0, 0)) (e_L 124 (2, e_nof, 332, 2))) (e_T 127 (e_L 127 (2, e_nof, 334, 2)) (e_T 130 (e_L 130 (0, ei_load 0 2 131, 0, 0)) (e_L 131 (0, ei_stk ef_dup 132, 0, 0))))) (e_T 135 (e_T 132 (e_L 132 (0, ei_getf eft elay 12 83 135, 0, 0)) (e_L 135 (0, ei_push (0, 1) 136, 0, 0))) (e_T 136 (e_L 136 (0, ei_bin eF_sub 137, 0, 0)) (e_T 137 (e_L 137 (0, ei_putf eft elay 12 83 0 140, 0, 0)) (e_L 140 (1, e_nof, 0, 0))))))))
set_option maxRecDepth 20000 in
set_option maxHeartbeats 4000000 in
theorem te_351_40_ok : ∀ pc, e_EOq eft cls elay eI n_351 pc (te_351_40 pc) :=
  (e_Tok2
  (e_Tok2
  (e_Tok2
  (e_Tok2
  (e_Tok2
  (e_Lok (ps_bipush_47 (x_dk dn_351_0_1_ok 15 rfl)))
  (e_Lok (ps_iconst_0 (x_dk dn_351_0_1_ok 16 rfl))))
  (e_Tok2
  (e_Lok (lk_12_565 ho_351 (x_dk dn_351_0_1_ok 17 rfl)))
  (e_Tok2
  (e_Lok (e_st (I := eI) (er_istore (i := 4) (x_dk dn_351_0_1_ok 18 rfl) (by decide +kernel)) nx_stor))
  (e_Lok (ld_aload_n_0 (x_dk dn_351_0_1_ok 19 rfl))))))
  (e_Tok2
  (e_Tok2
  (e_Lok (ld_iload_n_1 (x_dk dn_351_0_1_ok 20 rfl)))
  (e_Lok (lk_12_620p ho_351 (x_dk dn_351_0_1_ok 21 rfl))))
  (e_Tok2
  (e_Lok (ld_aload_n_0 (x_dk dn_351_0_1_ok 22 rfl)))
  (e_Tok2
  (e_Lok (lk_12_623 ho_351 (x_dk dn_351_0_1_ok 23 rfl)))
  (e_Lok (ld_aload_n_0 (x_dk dn_351_0_1_ok 24 rfl)))))))
  (e_Tok2
  (e_Tok2
  (e_Tok2
  (e_Lok (ld_iload_n_2 (x_dk dn_351_0_2_ok 0 rfl)))
  (e_Lok (lk_12_620p ho_351 (x_dk dn_351_0_2_ok 1 rfl))))
  (e_Tok2
  (e_Lok (ld_aload_n_0 (x_dk dn_351_0_2_ok 2 rfl)))
  (e_Tok2
  (e_Lok (ps_bipush_48 (x_dk dn_351_0_2_ok 3 rfl)))
  (e_Lok (ld_iload_n_3 (x_dk dn_351_0_2_ok 4 rfl))))))
  (e_Tok2
  (e_Tok2
  (e_Lok (lk_12_565 ho_351 (x_dk dn_351_0_2_ok 5 rfl)))
  (e_Lok (e_st (I := eI) (er_pop (x_dk dn_351_0_2_ok 6 rfl)) (nx_stk bf_pop))))
  (e_Tok2
  (e_Lok (ld_aload_n_0 (x_dk dn_351_0_2_ok 7 rfl)))
  (e_Tok2
  (e_Lok (ld_iload_4 (x_dk dn_351_0_2_ok 8 rfl)))
  (e_Lok (lk_12_575 ho_351 (x_dk dn_351_0_2_ok 9 rfl))))))))
  (e_Tok2
  (e_Tok2
  (e_Tok2
  (e_Tok2
  (e_Lok (ld_aload_n_0 (x_dk dn_351_0_2_ok 10 rfl)))
  (e_Lok (lk_12_195g ho_351 (x_dk dn_351_0_2_ok 11 rfl))))
  (e_Tok2
  (e_Lok (ps_sipush_3600 (x_dk dn_351_0_2_ok 12 rfl)))
  (e_Tok2
  (e_Lok (ld_iload_n_1 (x_dk dn_351_0_2_ok 13 rfl)))
  (e_Lok (sm_iadd (x_dk dn_351_0_2_ok 14 rfl))))))
  (e_Tok2
  (e_Tok2
  (e_Lok (ld_aload_n_0 (x_dk dn_351_0_2_ok 15 rfl)))
  (e_Lok (lk_12_546g ho_351 (x_dk dn_351_0_2_ok 16 rfl))))
  (e_Tok2
  (e_Lok (sm_iastore (x_dk dn_351_0_2_ok 17 rfl)))
  (e_Tok2
  (e_Lok (ld_aload_n_0 (x_dk dn_351_0_2_ok 18 rfl)))
  (e_Lok (ld_aload_n_0 (x_dk dn_351_0_2_ok 19 rfl)))))))
  (e_Tok2
  (e_Tok2
  (e_Tok2
  (e_Lok (ps_iconst_2 (x_dk dn_351_0_2_ok 20 rfl)))
  (e_Lok (lk_12_562 ho_351 (x_dk dn_351_0_2_ok 21 rfl))))
  (e_Tok2
  (e_Lok (lk_12_555 ho_351 (x_dk dn_351_0_2_ok 22 rfl)))
  (e_Tok2
  (e_Lok (ld_aload_n_0 (x_dk dn_351_0_2_ok 23 rfl)))
  (e_Lok (e_st (I := eI) (er_dup (x_dk dn_351_0_2_ok 24 rfl)) (nx_stk bf_dup))))))
  (e_Tok2
  (e_Tok2
  (e_Lok (lk_12_542g ho_351 (x_dk dn_351_0_3_ok 0 rfl)))
  (e_Lok (ps_iconst_1 (x_dk dn_351_0_3_ok 1 rfl))))
  (e_Tok2
  (e_Lok (sm_isub (x_dk dn_351_0_3_ok 2 rfl)))
  (e_Tok2
  (e_Lok (lk_12_542p ho_351 (x_dk dn_351_0_3_ok 3 rfl)))
  (e_Lok (e_rt (I := eI) (k := 0) ⟨(x_dk dn_351_0_3_ok 4 rfl), rfl⟩))))))))
def te_351 : Nat → eE := (e_T 70 te_351_0 te_351_40)
theorem te_351_ok : ∀ pc, e_EOq eft cls elay eI n_351 pc (te_351 pc) := (e_Tok2 (te_351_0_ok) (te_351_40_ok))
theorem ho_352 : (xm_y n_352).cls = "RobotCellHouseModel" := rfl
def dn_352_0_0 : List (Nat × Instr × Nat) := [(0, .aload_n 0, 1), (1, .invokevirtual 578, 3), (4, .aload_n 0, 1), (5, .bipush 30, 2), (7, .iconst 0, 1), (8, .invokevirtual 565, 3), (11, .pop, 1), (12, .aload_n 0, 1), (13, .getfield 549, 3), (16, .istore_n 1, 1), (17, .aload_n 0, 1), (18, .getfield 629, 3), (21, .istore_n 2, 1), (22, .aload_n 0, 1), (23, .dup, 1), (24, .getfield 629, 3), (27, .iconst 1, 1), (28, .iadd, 1), (29, .putfield 629, 3), (32, .sipush 3600, 3), (35, .iload_n 2, 1), (36, .iadd, 1), (37, .istore_n 3, 1), (38, .aload_n 0, 1), (39, .getfield 180, 3)]
set_option maxRecDepth 20000 in
theorem dn_352_0_0_ok : dn_352_0_0.all (fun q => decide (decode (xm_b n_352) q.1 = .ok (q.2.1, q.2.2))) = true := xa_g_ok (by decide +kernel)
def dn_352_0_1 : List (Nat × Instr × Nat) := [(42, .iload_n 3, 1), (43, .iload_n 1, 1), (44, .iastore, 1), (45, .aload_n 0, 1), (46, .getfield 183, 3), (49, .iload_n 3, 1), (50, .iconst (-1), 1), (51, .iastore, 1), (52, .aload_n 0, 1), (53, .getfield 186, 3), (56, .iload_n 3, 1), (57, .iconst (-1), 1), (58, .iastore, 1), (59, .aload_n 0, 1), (60, .aload_n 0, 1), (61, .bipush 21, 2), (63, .invokevirtual 562, 3), (66, .invokevirtual 555, 3), (69, .aload_n 0, 1), (70, .aload_n 0, 1), (71, .bipush 58, 2), (73, .invokevirtual 586, 3), (76, .invokevirtual 555, 3), (79, .aload_n 0, 1), (80, .iconst 3, 1)]
set_option maxRecDepth 20000 in
theorem dn_352_0_1_ok : dn_352_0_1.all (fun q => decide (decode (xm_b n_352) q.1 = .ok (q.2.1, q.2.2))) = true := xa_g_ok (by decide +kernel)
def dn_352_0_2 : List (Nat × Instr × Nat) := [(81, .iload_n 2, 1), (82, .imul, 1), (83, .putfield 549, 3), (86, .aload_n 0, 1), (87, .invokevirtual 623, 3), (90, .aload_n 0, 1), (91, .bipush 49, 2), (93, .iload_n 2, 1), (94, .invokevirtual 565, 3), (97, .pop, 1), (98, .aload_n 0, 1), (99, .getfield 530, 3), (102, .ifCond .ne 57, 3), (105, .aload_n 0, 1), (106, .bipush 22, 2), (108, .invokevirtual 562, 3), (111, .ifCond .eq 48, 3), (114, .aload_n 0, 1), (115, .invokevirtual 536, 3), (118, .aload_n 0, 1), (119, .aload_n 0, 1), (120, .bipush 58, 2), (122, .invokevirtual 586, 3), (125, .invokevirtual 555, 3), (128, .aload_n 0, 1)]
set_option maxRecDepth 20000 in
theorem dn_352_0_2_ok : dn_352_0_2.all (fun q => decide (decode (xm_b n_352) q.1 = .ok (q.2.1, q.2.2))) = true := xa_g_ok (by decide +kernel)
def dn_352_0_3 : List (Nat × Instr × Nat) := [(129, .iconst 3, 1), (130, .iload_n 2, 1), (131, .imul, 1), (132, .iconst 1, 1), (133, .iadd, 1), (134, .putfield 549, 3), (137, .aload_n 0, 1), (138, .getfield 183, 3), (141, .iload_n 3, 1), (142, .aload_n 0, 1), (143, .getfield 546, 3), (146, .iastore, 1), (147, .aload_n 0, 1), (148, .invokevirtual 623, 3), (151, .aload_n 0, 1), (152, .bipush 50, 2), (154, .iload_n 2, 1), (155, .invokevirtual 565, 3), (158, .pop, 1), (159, .aload_n 0, 1), (160, .getfield 530, 3), (163, .ifCond .ne 57, 3), (166, .aload_n 0, 1), (167, .bipush 23, 2), (169, .invokevirtual 562, 3)]
set_option maxRecDepth 20000 in
theorem dn_352_0_3_ok : dn_352_0_3.all (fun q => decide (decode (xm_b n_352) q.1 = .ok (q.2.1, q.2.2))) = true := xa_g_ok (by decide +kernel)
def dn_352_1_0 : List (Nat × Instr × Nat) := [(172, .ifCond .eq 48, 3), (175, .aload_n 0, 1), (176, .invokevirtual 536, 3), (179, .aload_n 0, 1), (180, .aload_n 0, 1), (181, .bipush 58, 2), (183, .invokevirtual 586, 3), (186, .invokevirtual 555, 3), (189, .aload_n 0, 1), (190, .iconst 3, 1), (191, .iload_n 2, 1), (192, .imul, 1), (193, .iconst 2, 1), (194, .iadd, 1), (195, .putfield 549, 3), (198, .aload_n 0, 1), (199, .getfield 186, 3), (202, .iload_n 3, 1), (203, .aload_n 0, 1), (204, .getfield 546, 3), (207, .iastore, 1), (208, .aload_n 0, 1), (209, .invokevirtual 623, 3), (212, .aload_n 0, 1), (213, .bipush 51, 2)]
set_option maxRecDepth 20000 in
theorem dn_352_1_0_ok : dn_352_1_0.all (fun q => decide (decode (xm_b n_352) q.1 = .ok (q.2.1, q.2.2))) = true := xa_g_ok (by decide +kernel)
def dn_352_1_1 : List (Nat × Instr × Nat) := [(215, .iload_n 2, 1), (216, .invokevirtual 565, 3), (219, .pop, 1), (220, .aload_n 0, 1), (221, .iload_n 1, 1), (222, .putfield 549, 3), (225, .aload_n 0, 1), (226, .getfield 189, 3), (229, .iload_n 3, 1), (230, .aload_n 0, 1), (231, .getfield 546, 3), (234, .iastore, 1), (235, .aload_n 0, 1), (236, .aload_n 0, 1), (237, .iconst 2, 1), (238, .invokevirtual 562, 3), (241, .invokevirtual 555, 3), (244, .aload_n 0, 1), (245, .dup, 1), (246, .getfield 542, 3), (249, .iconst 1, 1), (250, .isub, 1), (251, .putfield 542, 3), (254, .return_, 1)]
set_option maxRecDepth 20000 in
theorem dn_352_1_1_ok : dn_352_1_1.all (fun q => decide (decode (xm_b n_352) q.1 = .ok (q.2.1, q.2.2))) = true := xa_g_ok (by decide +kernel)
def te_352_0 : Nat → eE := (e_T 28 (e_T 13 (e_T 5 (e_T 1 (e_T 0 (e_L 0 (0, ei_load 0 2 1, 0, 0)) (e_L 1 (2, e_nof, 335, 1))) (e_T 4 (e_L 4 (0, ei_load 0 2 5, 0, 0)) (e_L 5 (0, ei_push (0, 30) 7, 0, 0)))) (e_T 8 (e_T 7 (e_L 7 (0, ei_push (0, 0) 8, 0, 0)) (e_L 8 (2, e_nof, 336, 3))) (e_T 11 (e_L 11 (0, ei_stk ef_pop 12, 0, 0)) (e_T 12 (e_L 12 (0, ei_load 0 2 13, 0, 0)) (e_L 13 (0, ei_getf eft elay 12 81 16, 0, 0)))))) (e_T 21 (e_T 17 (e_T 16 (e_L 16 (0, ei_stor 1 0 17, 0, 0)) (e_L 17 (0, ei_load 0 2 18, 0, 0))) (e_T 18 (e_L 18 (0, ei_getf eft elay 12 79 21, 0, 0)) (e_L 21 (0, ei_stor 2 0 22, 0, 0)))) (e_T 23 (e_T 22 (e_L 22 (0, ei_load 0 2 23, 0, 0)) (e_L 23 (0, ei_stk ef_dup 24, 0, 0))) (e_T 24 (e_L 24 (0, ei_getf eft elay 12 79 27, 0, 0)) (e_T 27 (e_L 27 (0, ei_push (0, 1) 28, 0, 0)) (e_L 28 (0, ei_bin eF_add 29, 0, 0))))))) (e_T 43 (e_T 36 (e_T 32 (e_T 29 (e_L 29 (0, ei_putf eft elay 12 79 0 32, 0, 0)) (e_L 32 (0, ei_push (0, 3600) 35, 0, 0))) (e_T 35 (e_L 35 (0, ei_load 2 0 36, 0, 0)) (e_L 36 (0, ei_bin eF_add 37, 0, 0)))) (e_T 38 (e_T 37 (e_L 37 (0, ei_stor 3 0 38, 0, 0)) (e_L 38 (0, ei_load 0 2 39, 0, 0))) (e_T 39 (e_L 39 (0, ei_getf eft elay 12 68 42, 0, 0)) (e_T 42 (e_L 42 (0, ei_load 3 0 43, 0, 0)) (e_L 43 (0, ei_load 1 0 44, 0, 0)))))) (e_T 50 (e_T 45 (e_T 44 (e_L 44 (0, ei_ast elay false 45, 0, 0)) (e_L 45 (0, ei_load 0 2 46, 0, 0))) (e_T 46 (e_L 46 (0, ei_getf eft elay 12 69 49, 0, 0)) (e_T 49 (e_L 49 (0, ei_load 3 0 50, 0, 0)) (e_L 50 (0, ei_push (0, (-1)) 51, 0, 0))))) (e_T 52 (e_T 51 (e_L 51 (0, ei_ast elay false 52, 0, 0)) (e_L 52 (0, ei_load 0 2 53, 0, 0))) (e_T 53 (e_L 53 (0, ei_getf eft elay 12 70 56, 0, 0)) (e_T 56 (e_L 56 (0, ei_load 3 0 57, 0, 0)) (e_L 57 (0, ei_push (0, (-1)) 58, 0, 0))))))))
set_option maxRecDepth 20000 in
set_option maxHeartbeats 4000000 in
theorem te_352_0_ok : ∀ pc, e_EOq eft cls elay eI n_352 pc (te_352_0 pc) :=
  (e_Tok2
  (e_Tok2
  (e_Tok2
  (e_Tok2
  (e_Tok2
  (e_Lok (ld_aload_n_0 (x_dk dn_352_0_0_ok 0 rfl)))
  (e_Lok (lk_12_578 ho_352 (x_dk dn_352_0_0_ok 1 rfl))))
  (e_Tok2
  (e_Lok (ld_aload_n_0 (x_dk dn_352_0_0_ok 2 rfl)))
  (e_Lok (ps_bipush_30 (x_dk dn_352_0_0_ok 3 rfl)))))
  (e_Tok2
  (e_Tok2
  (e_Lok (ps_iconst_0 (x_dk dn_352_0_0_ok 4 rfl)))
  (e_Lok (lk_12_565 ho_352 (x_dk dn_352_0_0_ok 5 rfl))))
  (e_Tok2
  (e_Lok (e_st (I := eI) (er_pop (x_dk dn_352_0_0_ok 6 rfl)) (nx_stk bf_pop)))
  (e_Tok2
  (e_Lok (ld_aload_n_0 (x_dk dn_352_0_0_ok 7 rfl)))
  (e_Lok (lk_12_549g ho_352 (x_dk dn_352_0_0_ok 8 rfl)))))))
  (e_Tok2
  (e_Tok2
  (e_Tok2
  (e_Lok (e_st (I := eI) (er_istore_n (i := 1) (x_dk dn_352_0_0_ok 9 rfl) (by decide +kernel)) nx_stor))
  (e_Lok (ld_aload_n_0 (x_dk dn_352_0_0_ok 10 rfl))))
  (e_Tok2
  (e_Lok (lk_12_629g ho_352 (x_dk dn_352_0_0_ok 11 rfl)))
  (e_Lok (e_st (I := eI) (er_istore_n (i := 2) (x_dk dn_352_0_0_ok 12 rfl) (by decide +kernel)) nx_stor))))
  (e_Tok2
  (e_Tok2
  (e_Lok (ld_aload_n_0 (x_dk dn_352_0_0_ok 13 rfl)))
  (e_Lok (e_st (I := eI) (er_dup (x_dk dn_352_0_0_ok 14 rfl)) (nx_stk bf_dup))))
  (e_Tok2
  (e_Lok (lk_12_629g ho_352 (x_dk dn_352_0_0_ok 15 rfl)))
  (e_Tok2
  (e_Lok (ps_iconst_1 (x_dk dn_352_0_0_ok 16 rfl)))
  (e_Lok (sm_iadd (x_dk dn_352_0_0_ok 17 rfl))))))))
  (e_Tok2
  (e_Tok2
  (e_Tok2
  (e_Tok2
  (e_Lok (lk_12_629p ho_352 (x_dk dn_352_0_0_ok 18 rfl)))
  (e_Lok (ps_sipush_3600 (x_dk dn_352_0_0_ok 19 rfl))))
  (e_Tok2
  (e_Lok (ld_iload_n_2 (x_dk dn_352_0_0_ok 20 rfl)))
  (e_Lok (sm_iadd (x_dk dn_352_0_0_ok 21 rfl)))))
  (e_Tok2
  (e_Tok2
  (e_Lok (e_st (I := eI) (er_istore_n (i := 3) (x_dk dn_352_0_0_ok 22 rfl) (by decide +kernel)) nx_stor))
  (e_Lok (ld_aload_n_0 (x_dk dn_352_0_0_ok 23 rfl))))
  (e_Tok2
  (e_Lok (lk_12_180g ho_352 (x_dk dn_352_0_0_ok 24 rfl)))
  (e_Tok2
  (e_Lok (ld_iload_n_3 (x_dk dn_352_0_1_ok 0 rfl)))
  (e_Lok (ld_iload_n_1 (x_dk dn_352_0_1_ok 1 rfl)))))))
  (e_Tok2
  (e_Tok2
  (e_Tok2
  (e_Lok (sm_iastore (x_dk dn_352_0_1_ok 2 rfl)))
  (e_Lok (ld_aload_n_0 (x_dk dn_352_0_1_ok 3 rfl))))
  (e_Tok2
  (e_Lok (lk_12_183g ho_352 (x_dk dn_352_0_1_ok 4 rfl)))
  (e_Tok2
  (e_Lok (ld_iload_n_3 (x_dk dn_352_0_1_ok 5 rfl)))
  (e_Lok (ps_iconst_m1 (x_dk dn_352_0_1_ok 6 rfl))))))
  (e_Tok2
  (e_Tok2
  (e_Lok (sm_iastore (x_dk dn_352_0_1_ok 7 rfl)))
  (e_Lok (ld_aload_n_0 (x_dk dn_352_0_1_ok 8 rfl))))
  (e_Tok2
  (e_Lok (lk_12_186g ho_352 (x_dk dn_352_0_1_ok 9 rfl)))
  (e_Tok2
  (e_Lok (ld_iload_n_3 (x_dk dn_352_0_1_ok 10 rfl)))
  (e_Lok (ps_iconst_m1 (x_dk dn_352_0_1_ok 11 rfl)))))))))
def te_352_37 : Nat → eE := (e_T 87 (e_T 71 (e_T 61 (e_T 59 (e_T 58 (e_L 58 (0, ei_ast elay false 59, 0, 0)) (e_L 59 (0, ei_load 0 2 60, 0, 0))) (e_T 60 (e_L 60 (0, ei_load 0 2 61, 0, 0)) (e_L 61 (0, ei_push (0, 21) 63, 0, 0)))) (e_T 66 (e_T 63 (e_L 63 (2, e_nof, 332, 2)) (e_L 66 (2, e_nof, 334, 2))) (e_T 69 (e_L 69 (0, ei_load 0 2 70, 0, 0)) (e_T 70 (e_L 70 (0, ei_load 0 2 71, 0, 0)) (e_L 71 (0, ei_push (0, 58) 73, 0, 0)))))) (e_T 80 (e_T 76 (e_T 73 (e_L 73 (2, e_nof, 331, 2)) (e_L 76 (2, e_nof, 334, 2))) (e_T 79 (e_L 79 (0, ei_load 0 2 80, 0, 0)) (e_L 80 (0, ei_push (0, 3) 81, 0, 0)))) (e_T 82 (e_T 81 (e_L 81 (0, ei_load 2 0 82, 0, 0)) (e_L 82 (0, ei_bin eF_mul 83, 0, 0))) (e_T 83 (e_L 83 (0, ei_putf eft elay 12 81 0 86, 0, 0)) (e_T 86 (e_L 86 (0, ei_load 0 2 87, 0, 0)) (e_L 87 (2, e_nof, 348, 1))))))) (e_T 105 (e_T 94 (e_T 91 (e_T 90 (e_L 90 (0, ei_load 0 2 91, 0, 0)) (e_L 91 (0, ei_push (0, 49) 93, 0, 0))) (e_T 93 (e_L 93 (0, ei_load 2 0 94, 0, 0)) (e_L 94 (2, e_nof, 336, 3)))) (e_T 98 (e_T 97 (e_L 97 (0, ei_stk ef_pop 98, 0, 0)) (e_L 98 (0, ei_load 0 2 99, 0, 0))) (e_T 99 (e_L 99 (0, ei_getf eft elay 12 88 102, 0, 0)) (e_T 102 (e_L 102 (0, ei_if1 1 159 105, 0, 0)) (e_L 105 (0, ei_load 0 2 106, 0, 0)))))) (e_T 115 (e_T 108 (e_T 106 (e_L 106 (0, ei_push (0, 22) 108, 0, 0)) (e_L 108 (2, e_nof, 332, 2))) (e_T 111 (e_L 111 (0, ei_if1 0 159 114, 0, 0)) (e_T 114 (e_L 114 (0, ei_load 0 2 115, 0, 0)) (e_L 115 (2, e_nof, 327, 1))))) (e_T 119 (e_T 118 (e_L 118 (0, ei_load 0 2 119, 0, 0)) (e_L 119 (0, ei_load 0 2 120, 0, 0))) (e_T 120 (e_L 120 (0, ei_push (0, 58) 122, 0, 0)) (e_T 122 (e_L 122 (2, e_nof, 331, 2)) (e_L 125 (2, e_nof, 334, 2))))))))
set_option maxRecDepth 20000 in
set_option maxHeartbeats 4000000 in
theorem te_352_37_ok : ∀ pc, e_EOq eft cls elay eI n_352 pc (te_352_37 pc) :=
  (e_Tok2
  (e_Tok2
  (e_Tok2
  (e_Tok2
  (e_Tok2
  (e_Lok (sm_iastore (x_dk dn_352_0_1_ok 12 rfl)))
  (e_Lok (ld_aload_n_0 (x_dk dn_352_0_1_ok 13 rfl))))
  (e_Tok2
  (e_Lok (ld_aload_n_0 (x_dk dn_352_0_1_ok 14 rfl)))
  (e_Lok (ps_bipush_21 (x_dk dn_352_0_1_ok 15 rfl)))))
  (e_Tok2
  (e_Tok2
  (e_Lok (lk_12_562 ho_352 (x_dk dn_352_0_1_ok 16 rfl)))
  (e_Lok (lk_12_555 ho_352 (x_dk dn_352_0_1_ok 17 rfl))))
  (e_Tok2
  (e_Lok (ld_aload_n_0 (x_dk dn_352_0_1_ok 18 rfl)))
  (e_Tok2
  (e_Lok (ld_aload_n_0 (x_dk dn_352_0_1_ok 19 rfl)))
  (e_Lok (ps_bipush_58 (x_dk dn_352_0_1_ok 20 rfl)))))))
  (e_Tok2
  (e_Tok2
  (e_Tok2
  (e_Lok (lk_12_586 ho_352 (x_dk dn_352_0_1_ok 21 rfl)))
  (e_Lok (lk_12_555 ho_352 (x_dk dn_352_0_1_ok 22 rfl))))
  (e_Tok2
  (e_Lok (ld_aload_n_0 (x_dk dn_352_0_1_ok 23 rfl)))
  (e_Lok (ps_iconst_3 (x_dk dn_352_0_1_ok 24 rfl)))))
  (e_Tok2
  (e_Tok2
  (e_Lok (ld_iload_n_2 (x_dk dn_352_0_2_ok 0 rfl)))
  (e_Lok (sm_imul (x_dk dn_352_0_2_ok 1 rfl))))
  (e_Tok2
  (e_Lok (lk_12_549p ho_352 (x_dk dn_352_0_2_ok 2 rfl)))
  (e_Tok2
  (e_Lok (ld_aload_n_0 (x_dk dn_352_0_2_ok 3 rfl)))
  (e_Lok (lk_12_623 ho_352 (x_dk dn_352_0_2_ok 4 rfl))))))))
  (e_Tok2
  (e_Tok2
  (e_Tok2
  (e_Tok2
  (e_Lok (ld_aload_n_0 (x_dk dn_352_0_2_ok 5 rfl)))
  (e_Lok (ps_bipush_49 (x_dk dn_352_0_2_ok 6 rfl))))
  (e_Tok2
  (e_Lok (ld_iload_n_2 (x_dk dn_352_0_2_ok 7 rfl)))
  (e_Lok (lk_12_565 ho_352 (x_dk dn_352_0_2_ok 8 rfl)))))
  (e_Tok2
  (e_Tok2
  (e_Lok (e_st (I := eI) (er_pop (x_dk dn_352_0_2_ok 9 rfl)) (nx_stk bf_pop)))
  (e_Lok (ld_aload_n_0 (x_dk dn_352_0_2_ok 10 rfl))))
  (e_Tok2
  (e_Lok (lk_12_530g ho_352 (x_dk dn_352_0_2_ok 11 rfl)))
  (e_Tok2
  (e_Lok (e_st (I := eI) (er_ifne (off := 57) (tg := 159) (x_dk dn_352_0_2_ok 12 rfl) (by decide)) nx_if1))
  (e_Lok (ld_aload_n_0 (x_dk dn_352_0_2_ok 13 rfl)))))))
  (e_Tok2
  (e_Tok2
  (e_Tok2
  (e_Lok (ps_bipush_22 (x_dk dn_352_0_2_ok 14 rfl)))
  (e_Lok (lk_12_562 ho_352 (x_dk dn_352_0_2_ok 15 rfl))))
  (e_Tok2
  (e_Lok (e_st (I := eI) (er_ifeq (off := 48) (tg := 159) (x_dk dn_352_0_2_ok 16 rfl) (by decide)) nx_if1))
  (e_Tok2
  (e_Lok (ld_aload_n_0 (x_dk dn_352_0_2_ok 17 rfl)))
  (e_Lok (lk_12_536 ho_352 (x_dk dn_352_0_2_ok 18 rfl))))))
  (e_Tok2
  (e_Tok2
  (e_Lok (ld_aload_n_0 (x_dk dn_352_0_2_ok 19 rfl)))
  (e_Lok (ld_aload_n_0 (x_dk dn_352_0_2_ok 20 rfl))))
  (e_Tok2
  (e_Lok (ps_bipush_58 (x_dk dn_352_0_2_ok 21 rfl)))
  (e_Tok2
  (e_Lok (lk_12_586 ho_352 (x_dk dn_352_0_2_ok 22 rfl)))
  (e_Lok (lk_12_555 ho_352 (x_dk dn_352_0_2_ok 23 rfl)))))))))
def te_352_74 : Nat → eE := (e_T 154 (e_T 138 (e_T 131 (e_T 129 (e_T 128 (e_L 128 (0, ei_load 0 2 129, 0, 0)) (e_L 129 (0, ei_push (0, 3) 130, 0, 0))) (e_T 130 (e_L 130 (0, ei_load 2 0 131, 0, 0)) (e_L 131 (0, ei_bin eF_mul 132, 0, 0)))) (e_T 133 (e_T 132 (e_L 132 (0, ei_push (0, 1) 133, 0, 0)) (e_L 133 (0, ei_bin eF_add 134, 0, 0))) (e_T 134 (e_L 134 (0, ei_putf eft elay 12 81 0 137, 0, 0)) (e_T 137 (e_L 137 (0, ei_load 0 2 138, 0, 0)) (e_L 138 (0, ei_getf eft elay 12 69 141, 0, 0)))))) (e_T 146 (e_T 142 (e_T 141 (e_L 141 (0, ei_load 3 0 142, 0, 0)) (e_L 142 (0, ei_load 0 2 143, 0, 0))) (e_T 143 (e_L 143 (0, ei_getf eft elay 12 78 146, 0, 0)) (e_L 146 (0, ei_ast elay false 147, 0, 0)))) (e_T 148 (e_T 147 (e_L 147 (0, ei_load 0 2 148, 0, 0)) (e_L 148 (2, e_nof, 348, 1))) (e_T 151 (e_L 151 (0, ei_load 0 2 152, 0, 0)) (e_T 152 (e_L 152 (0, ei_push (0, 50) 154, 0, 0)) (e_L 154 (0, ei_load 2 0 155, 0, 0))))))) (e_T 172 (e_T 160 (e_T 158 (e_T 155 (e_L 155 (2, e_nof, 336, 3)) (e_L 158 (0, ei_stk ef_pop 159, 0, 0))) (e_T 159 (e_L 159 (0, ei_load 0 2 160, 0, 0)) (e_L 160 (0, ei_getf eft elay 12 88 163, 0, 0)))) (e_T 166 (e_T 163 (e_L 163 (0, ei_if1 1 220 166, 0, 0)) (e_L 166 (0, ei_load 0 2 167, 0, 0))) (e_T 167 (e_L 167 (0, ei_push (0, 23) 169, 0, 0)) (e_T 169 (e_L 169 (2, e_nof, 332, 2)) (e_L 172 (0, ei_if1 0 220 175, 0, 0)))))) (e_T 181 (e_T 176 (e_T 175 (e_L 175 (0, ei_load 0 2 176, 0, 0)) (e_L 176 (2, e_nof, 327, 1))) (e_T 179 (e_L 179 (0, ei_load 0 2 180, 0, 0)) (e_T 180 (e_L 180 (0, ei_load 0 2 181, 0, 0)) (e_L 181 (0, ei_push (0, 58) 183, 0, 0))))) (e_T 186 (e_T 183 (e_L 183 (2, e_nof, 331, 2)) (e_L 186 (2, e_nof, 334, 2))) (e_T 189 (e_L 189 (0, ei_load 0 2 190, 0, 0)) (e_T 190 (e_L 190 (0, ei_push (0, 3) 191, 0, 0)) (e_L 191 (0, ei_load 2 0 192, 0, 0))))))))
set_option maxRecDepth 20000 in
set_option maxHeartbeats 4000000 in
theorem te_352_74_ok : ∀ pc, e_EOq eft cls elay eI n_352 pc (te_352_74 pc) :=
  (e_Tok2
  (e_Tok2
  (e_Tok2
  (e_Tok2
  (e_Tok2
  (e_Lok (ld_aload_n_0 (x_dk dn_352_0_2_ok 24 rfl)))
  (e_Lok (ps_iconst_3 (x_dk dn_352_0_3_ok 0 rfl))))
  (e_Tok2
  (e_Lok (ld_iload_n_2 (x_dk dn_352_0_3_ok 1 rfl)))
  (e_Lok (sm_imul (x_dk dn_352_0_3_ok 2 rfl)))))
  (e_Tok2
  (e_Tok2
  (e_Lok (ps_iconst_1 (x_dk dn_352_0_3_ok 3 rfl)))
  (e_Lok (sm_iadd (x_dk dn_352_0_3_ok 4 rfl))))
  (e_Tok2
  (e_Lok (lk_12_549p ho_352 (x_dk dn_352_0_3_ok 5 rfl)))
  (e_Tok2
  (e_Lok (ld_aload_n_0 (x_dk dn_352_0_3_ok 6 rfl)))
  (e_Lok (lk_12_183g ho_352 (x_dk dn_352_0_3_ok 7 rfl)))))))
  (e_Tok2
  (e_Tok2
  (e_Tok2
  (e_Lok (ld_iload_n_3 (x_dk dn_352_0_3_ok 8 rfl)))
  (e_Lok (ld_aload_n_0 (x_dk dn_352_0_3_ok 9 rfl))))
  (e_Tok2
  (e_Lok (lk_12_546g ho_352 (x_dk dn_352_0_3_ok 10 rfl)))
  (e_Lok (sm_iastore (x_dk dn_352_0_3_ok 11 rfl)))))
  (e_Tok2
  (e_Tok2
  (e_Lok (ld_aload_n_0 (x_dk dn_352_0_3_ok 12 rfl)))
  (e_Lok (lk_12_623 ho_352 (x_dk dn_352_0_3_ok 13 rfl))))
  (e_Tok2
  (e_Lok (ld_aload_n_0 (x_dk dn_352_0_3_ok 14 rfl)))
  (e_Tok2
  (e_Lok (ps_bipush_50 (x_dk dn_352_0_3_ok 15 rfl)))
  (e_Lok (ld_iload_n_2 (x_dk dn_352_0_3_ok 16 rfl))))))))
  (e_Tok2
  (e_Tok2
  (e_Tok2
  (e_Tok2
  (e_Lok (lk_12_565 ho_352 (x_dk dn_352_0_3_ok 17 rfl)))
  (e_Lok (e_st (I := eI) (er_pop (x_dk dn_352_0_3_ok 18 rfl)) (nx_stk bf_pop))))
  (e_Tok2
  (e_Lok (ld_aload_n_0 (x_dk dn_352_0_3_ok 19 rfl)))
  (e_Lok (lk_12_530g ho_352 (x_dk dn_352_0_3_ok 20 rfl)))))
  (e_Tok2
  (e_Tok2
  (e_Lok (e_st (I := eI) (er_ifne (off := 57) (tg := 220) (x_dk dn_352_0_3_ok 21 rfl) (by decide)) nx_if1))
  (e_Lok (ld_aload_n_0 (x_dk dn_352_0_3_ok 22 rfl))))
  (e_Tok2
  (e_Lok (ps_bipush_23 (x_dk dn_352_0_3_ok 23 rfl)))
  (e_Tok2
  (e_Lok (lk_12_562 ho_352 (x_dk dn_352_0_3_ok 24 rfl)))
  (e_Lok (e_st (I := eI) (er_ifeq (off := 48) (tg := 220) (x_dk dn_352_1_0_ok 0 rfl) (by decide)) nx_if1))))))
  (e_Tok2
  (e_Tok2
  (e_Tok2
  (e_Lok (ld_aload_n_0 (x_dk dn_352_1_0_ok 1 rfl)))
  (e_Lok (lk_12_536 ho_352 (x_dk dn_352_1_0_ok 2 rfl))))
  (e_Tok2
  (e_Lok (ld_aload_n_0 (x_dk dn_352_1_0_ok 3 rfl)))
  (e_Tok2
  (e_Lok (ld_aload_n_0 (x_dk dn_352_1_0_ok 4 rfl)))
  (e_Lok (ps_bipush_58 (x_dk dn_352_1_0_ok 5 rfl))))))
  (e_Tok2
  (e_Tok2
  (e_Lok (lk_12_586 ho_352 (x_dk dn_352_1_0_ok 6 rfl)))
  (e_Lok (lk_12_555 ho_352 (x_dk dn_352_1_0_ok 7 rfl))))
  (e_Tok2
  (e_Lok (ld_aload_n_0 (x_dk dn_352_1_0_ok 8 rfl)))
  (e_Tok2
  (e_Lok (ps_iconst_3 (x_dk dn_352_1_0_ok 9 rfl)))
  (e_Lok (ld_iload_n_2 (x_dk dn_352_1_0_ok 10 rfl)))))))))
def te_352_111 : Nat → eE := (e_T 221 (e_T 204 (e_T 195 (e_T 193 (e_T 192 (e_L 192 (0, ei_bin eF_mul 193, 0, 0)) (e_L 193 (0, ei_push (0, 2) 194, 0, 0))) (e_T 194 (e_L 194 (0, ei_bin eF_add 195, 0, 0)) (e_L 195 (0, ei_putf eft elay 12 81 0 198, 0, 0)))) (e_T 199 (e_T 198 (e_L 198 (0, ei_load 0 2 199, 0, 0)) (e_L 199 (0, ei_getf eft elay 12 70 202, 0, 0))) (e_T 202 (e_L 202 (0, ei_load 3 0 203, 0, 0)) (e_T 203 (e_L 203 (0, ei_load 0 2 204, 0, 0)) (e_L 204 (0, ei_getf eft elay 12 78 207, 0, 0)))))) (e_T 213 (e_T 208 (e_T 207 (e_L 207 (0, ei_ast elay false 208, 0, 0)) (e_L 208 (0, ei_load 0 2 209, 0, 0))) (e_T 209 (e_L 209 (2, e_nof, 348, 1)) (e_T 212 (e_L 212 (0, ei_load 0 2 213, 0, 0)) (e_L 213 (0, ei_push (0, 51) 215, 0, 0))))) (e_T 216 (e_T 215 (e_L 215 (0, ei_load 2 0 216, 0, 0)) (e_L 216 (2, e_nof, 336, 3))) (e_T 219 (e_L 219 (0, ei_stk ef_pop 220, 0, 0)) (e_T 220 (e_L 220 (0, ei_load 0 2 221, 0, 0)) (e_L 221 (0, ei_load 1 0 222, 0, 0))))))) (e_T 236 (e_T 229 (e_T 225 (e_T 222 (e_L 222 (0, ei_putf eft elay 12 81 0 225, 0, 0)) (e_L 225 (0, ei_load 0 2 226, 0, 0))) (e_T 226 (e_L 226 (0, ei_getf eft elay 12 71 229, 0, 0)) (e_L 229 (0, ei_load 3 0 230, 0, 0)))) (e_T 231 (e_T 230 (e_L 230 (0, ei_load 0 2 231, 0, 0)) (e_L 231 (0, ei_getf eft elay 12 78 234, 0, 0))) (e_T 234 (e_L 234 (0, ei_ast elay false 235, 0, 0)) (e_T 235 (e_L 235 (0, ei_load 0 2 236, 0, 0)) (e_L 236 (0, ei_load 0 2 237, 0, 0)))))) (e_T 245 (e_T 238 (e_T 237 (e_L 237 (0, ei_push (0, 2) 238, 0, 0)) (e_L 238 (2, e_nof, 332, 2))) (e_T 241 (e_L 241 (2, e_nof, 334, 2)) (e_T 244 (e_L 244 (0, ei_load 0 2 245, 0, 0)) (e_L 245 (0, ei_stk ef_dup 246, 0, 0))))) (e_T 249 (e_T 246 (e_L 246 (0, ei_getf eft elay 12 83 249, 0, 0)) (e_L 249 (0, ei_push (0, 1) 250, 0, 0))) (e_T 250 (e_L 250 (0, ei_bin eF_sub 251, 0, 0)) (e_T 251 (e_L 251 (0, ei_putf eft elay 12 83 0 254, 0, 0)) (e_L 254 (1, e_nof, 0, 0))))))))
set_option maxRecDepth 20000 in
set_option maxHeartbeats 4000000 in
theorem te_352_111_ok : ∀ pc, e_EOq eft cls elay eI n_352 pc (te_352_111 pc) :=
  (e_Tok2
  (e_Tok2
  (e_Tok2
  (e_Tok2
  (e_Tok2
  (e_Lok (sm_imul (x_dk dn_352_1_0_ok 11 rfl)))
  (e_Lok (ps_iconst_2 (x_dk dn_352_1_0_ok 12 rfl))))
  (e_Tok2
  (e_Lok (sm_iadd (x_dk dn_352_1_0_ok 13 rfl)))
  (e_Lok (lk_12_549p ho_352 (x_dk dn_352_1_0_ok 14 rfl)))))
  (e_Tok2
  (e_Tok2
  (e_Lok (ld_aload_n_0 (x_dk dn_352_1_0_ok 15 rfl)))
  (e_Lok (lk_12_186g ho_352 (x_dk dn_352_1_0_ok 16 rfl))))
  (e_Tok2
  (e_Lok (ld_iload_n_3 (x_dk dn_352_1_0_ok 17 rfl)))
  (e_Tok2
  (e_Lok (ld_aload_n_0 (x_dk dn_352_1_0_ok 18 rfl)))
  (e_Lok (lk_12_546g ho_352 (x_dk dn_352_1_0_ok 19 rfl)))))))
  (e_Tok2
  (e_Tok2
  (e_Tok2
  (e_Lok (sm_iastore (x_dk dn_352_1_0_ok 20 rfl)))
  (e_Lok (ld_aload_n_0 (x_dk dn_352_1_0_ok 21 rfl))))
  (e_Tok2
  (e_Lok (lk_12_623 ho_352 (x_dk dn_352_1_0_ok 22 rfl)))
  (e_Tok2
  (e_Lok (ld_aload_n_0 (x_dk dn_352_1_0_ok 23 rfl)))
  (e_Lok (ps_bipush_51 (x_dk dn_352_1_0_ok 24 rfl))))))
  (e_Tok2
  (e_Tok2
  (e_Lok (ld_iload_n_2 (x_dk dn_352_1_1_ok 0 rfl)))
  (e_Lok (lk_12_565 ho_352 (x_dk dn_352_1_1_ok 1 rfl))))
  (e_Tok2
  (e_Lok (e_st (I := eI) (er_pop (x_dk dn_352_1_1_ok 2 rfl)) (nx_stk bf_pop)))
  (e_Tok2
  (e_Lok (ld_aload_n_0 (x_dk dn_352_1_1_ok 3 rfl)))
  (e_Lok (ld_iload_n_1 (x_dk dn_352_1_1_ok 4 rfl))))))))
  (e_Tok2
  (e_Tok2
  (e_Tok2
  (e_Tok2
  (e_Lok (lk_12_549p ho_352 (x_dk dn_352_1_1_ok 5 rfl)))
  (e_Lok (ld_aload_n_0 (x_dk dn_352_1_1_ok 6 rfl))))
  (e_Tok2
  (e_Lok (lk_12_189g ho_352 (x_dk dn_352_1_1_ok 7 rfl)))
  (e_Lok (ld_iload_n_3 (x_dk dn_352_1_1_ok 8 rfl)))))
  (e_Tok2
  (e_Tok2
  (e_Lok (ld_aload_n_0 (x_dk dn_352_1_1_ok 9 rfl)))
  (e_Lok (lk_12_546g ho_352 (x_dk dn_352_1_1_ok 10 rfl))))
  (e_Tok2
  (e_Lok (sm_iastore (x_dk dn_352_1_1_ok 11 rfl)))
  (e_Tok2
  (e_Lok (ld_aload_n_0 (x_dk dn_352_1_1_ok 12 rfl)))
  (e_Lok (ld_aload_n_0 (x_dk dn_352_1_1_ok 13 rfl)))))))
  (e_Tok2
  (e_Tok2
  (e_Tok2
  (e_Lok (ps_iconst_2 (x_dk dn_352_1_1_ok 14 rfl)))
  (e_Lok (lk_12_562 ho_352 (x_dk dn_352_1_1_ok 15 rfl))))
  (e_Tok2
  (e_Lok (lk_12_555 ho_352 (x_dk dn_352_1_1_ok 16 rfl)))
  (e_Tok2
  (e_Lok (ld_aload_n_0 (x_dk dn_352_1_1_ok 17 rfl)))
  (e_Lok (e_st (I := eI) (er_dup (x_dk dn_352_1_1_ok 18 rfl)) (nx_stk bf_dup))))))
  (e_Tok2
  (e_Tok2
  (e_Lok (lk_12_542g ho_352 (x_dk dn_352_1_1_ok 19 rfl)))
  (e_Lok (ps_iconst_1 (x_dk dn_352_1_1_ok 20 rfl))))
  (e_Tok2
  (e_Lok (sm_isub (x_dk dn_352_1_1_ok 21 rfl)))
  (e_Tok2
  (e_Lok (lk_12_542p ho_352 (x_dk dn_352_1_1_ok 22 rfl)))
  (e_Lok (e_rt (I := eI) (k := 0) ⟨(x_dk dn_352_1_1_ok 23 rfl), rfl⟩))))))))
def te_352 : Nat → eE := (e_T 125 (e_T 57 te_352_0 te_352_37) (e_T 191 te_352_74 te_352_111))
theorem te_352_ok : ∀ pc, e_EOq eft cls elay eI n_352 pc (te_352 pc) := (e_Tok2 ((e_Tok2 (te_352_0_ok) (te_352_37_ok))) ((e_Tok2 (te_352_74_ok) (te_352_111_ok))))
theorem ho_353 : (xm_y n_353).cls = "RobotCellHouseModel" := rfl
def dn_353_0_0 : List (Nat × Instr × Nat) := [(0, .aload_n 0, 1), (1, .getfield 530, 3), (4, .ifCond .ne 63, 3), (7, .aload_n 0, 1), (8, .iconst 0, 1), (9, .invokevirtual 562, 3), (12, .ifCond .eq 55, 3), (15, .aload_n 0, 1), (16, .invokevirtual 536, 3), (19, .aload_n 0, 1), (20, .iconst 0, 1), (21, .iconst 0, 1), (22, .invokevirtual 595, 3), (25, .aload_n 0, 1), (26, .getfield 530, 3), (29, .ifCond .ne 25, 3), (32, .aload_n 0, 1), (33, .bipush 44, 2), (35, .invokevirtual 586, 3), (38, .ifCond .eq 16, 3), (41, .aload_n 0, 1), (42, .invokevirtual 536, 3), (45, .aload_n 0, 1), (46, .iconst 0, 1), (47, .iconst 0, 1)]
set_option maxRecDepth 20000 in
theorem dn_353_0_0_ok : dn_353_0_0.all (fun q => decide (decode (xm_b n_353) q.1 = .ok (q.2.1, q.2.2))) = true := xa_g_ok (by decide +kernel)
def dn_353_0_1 : List (Nat × Instr × Nat) := [(48, .invokevirtual 595, 3), (51, .goto (-26), 3), (54, .aload_n 0, 1), (55, .aload_n 0, 1), (56, .bipush 59, 2), (58, .invokevirtual 586, 3), (61, .invokevirtual 555, 3), (64, .goto (-64), 3), (67, .aload_n 0, 1), (68, .getfield 530, 3), (71, .ifCond .ne 58, 3), (74, .aload_n 0, 1), (75, .iconst 1, 1), (76, .invokevirtual 562, 3), (79, .ifCond .eq 50, 3), (82, .aload_n 0, 1), (83, .invokevirtual 536, 3), (86, .aload_n 0, 1), (87, .iconst 1, 1), (88, .aload_n 0, 1), (89, .getfield 546, 3), (92, .invokevirtual 595, 3), (95, .aload_n 0, 1), (96, .aload_n 0, 1), (97, .bipush 58, 2)]
set_option maxRecDepth 20000 in
theorem dn_353_0_1_ok : dn_353_0_1.all (fun q => decide (decode (xm_b n_353) q.1 = .ok (q.2.1, q.2.2))) = true := xa_g_ok (by decide +kernel)
def dn_353_0_2 : List (Nat × Instr × Nat) := [(99, .invokevirtual 586, 3), (102, .invokevirtual 555, 3), (105, .aload_n 0, 1), (106, .invokevirtual 623, 3), (109, .aload_n 0, 1), (110, .aload_n 0, 1), (111, .iconst 2, 1), (112, .invokevirtual 562, 3), (115, .invokevirtual 555, 3), (118, .aload_n 0, 1), (119, .bipush 45, 2), (121, .iconst 0, 1), (122, .invokevirtual 565, 3), (125, .pop, 1), (126, .goto (-59), 3), (129, .aload_n 0, 1), (130, .aload_n 0, 1), (131, .getfield 497, 3), (134, .ifCond .ne 7, 3), (137, .iconst 1, 1), (138, .goto 4, 3), (141, .iconst 0, 1), (142, .invokevirtual 555, 3), (145, .return_, 1)]
set_option maxRecDepth 20000 in
theorem dn_353_0_2_ok : dn_353_0_2.all (fun q => decide (decode (xm_b n_353) q.1 = .ok (q.2.1, q.2.2))) = true := xa_g_ok (by decide +kernel)
def te_353_0 : Nat → eE := (e_T 33 (e_T 16 (e_T 7 (e_T 1 (e_T 0 (e_L 0 (0, ei_load 0 2 1, 0, 0)) (e_L 1 (0, ei_getf eft elay 12 88 4, 0, 0))) (e_T 4 (e_L 4 (0, ei_if1 1 67 7, 0, 0)) (e_L 7 (0, ei_load 0 2 8, 0, 0)))) (e_T 9 (e_T 8 (e_L 8 (0, ei_push (0, 0) 9, 0, 0)) (e_L 9 (2, e_nof, 332, 2))) (e_T 12 (e_L 12 (0, ei_if1 0 67 15, 0, 0)) (e_T 15 (e_L 15 (0, ei_load 0 2 16, 0, 0)) (e_L 16 (2, e_nof, 327, 1)))))) (e_T 22 (e_T 20 (e_T 19 (e_L 19 (0, ei_load 0 2 20, 0, 0)) (e_L 20 (0, ei_push (0, 0) 21, 0, 0))) (e_T 21 (e_L 21 (0, ei_push (0, 0) 22, 0, 0)) (e_L 22 (2, e_nof, 338, 3)))) (e_T 26 (e_T 25 (e_L 25 (0, ei_load 0 2 26, 0, 0)) (e_L 26 (0, ei_getf eft elay 12 88 29, 0, 0))) (e_T 29 (e_L 29 (0, ei_if1 1 54 32, 0, 0)) (e_T 32 (e_L 32 (0, ei_load 0 2 33, 0, 0)) (e_L 33 (0, ei_push (0, 44) 35, 0, 0))))))) (e_T 51 (e_T 42 (e_T 38 (e_T 35 (e_L 35 (2, e_nof, 331, 2)) (e_L 38 (0, ei_if1 0 54 41, 0, 0))) (e_T 41 (e_L 41 (0, ei_load 0 2 42, 0, 0)) (e_L 42 (2, e_nof, 327, 1)))) (e_T 46 (e_T 45 (e_L 45 (0, ei_load 0 2 46, 0, 0)) (e_L 46 (0, ei_push (0, 0) 47, 0, 0))) (e_T 47 (e_L 47 (0, ei_push (0, 0) 48, 0, 0)) (e_T 48 (e_L 48 (2, e_nof, 338, 3)) (e_L 51 (0, ei_goto 25, 0, 0)))))) (e_T 61 (e_T 55 (e_T 54 (e_L 54 (0, ei_load 0 2 55, 0, 0)) (e_L 55 (0, ei_load 0 2 56, 0, 0))) (e_T 56 (e_L 56 (0, ei_push (0, 59) 58, 0, 0)) (e_T 58 (e_L 58 (2, e_nof, 331, 2)) (e_L 61 (2, e_nof, 334, 2))))) (e_T 67 (e_T 64 (e_L 64 (0, ei_goto 0, 0, 0)) (e_L 67 (0, ei_load 0 2 68, 0, 0))) (e_T 68 (e_L 68 (0, ei_getf eft elay 12 88 71, 0, 0)) (e_T 71 (e_L 71 (0, ei_if1 1 129 74, 0, 0)) (e_L 74 (0, ei_load 0 2 75, 0, 0))))))))
set_option maxRecDepth 20000 in
set_option maxHeartbeats 4000000 in
theorem te_353_0_ok : ∀ pc, e_EOq eft cls elay eI n_353 pc (te_353_0 pc) :=
  (e_Tok2
  (e_Tok2
  (e_Tok2
  (e_Tok2
  (e_Tok2
  (e_Lok (ld_aload_n_0 (x_dk dn_353_0_0_ok 0 rfl)))
  (e_Lok (lk_12_530g ho_353 (x_dk dn_353_0_0_ok 1 rfl))))
  (e_Tok2
  (e_Lok (e_st (I := eI) (er_ifne (off := 63) (tg := 67) (x_dk dn_353_0_0_ok 2 rfl) (by decide)) nx_if1))
  (e_Lok (ld_aload_n_0 (x_dk dn_353_0_0_ok 3 rfl)))))
  (e_Tok2
  (e_Tok2
  (e_Lok (ps_iconst_0 (x_dk dn_353_0_0_ok 4 rfl)))
  (e_Lok (lk_12_562 ho_353 (x_dk dn_353_0_0_ok 5 rfl))))
  (e_Tok2
  (e_Lok (e_st (I := eI) (er_ifeq (off := 55) (tg := 67) (x_dk dn_353_0_0_ok 6 rfl) (by decide)) nx_if1))
  (e_Tok2
  (e_Lok (ld_aload_n_0 (x_dk dn_353_0_0_ok 7 rfl)))
  (e_Lok (lk_12_536 ho_353 (x_dk dn_353_0_0_ok 8 rfl)))))))
  (e_Tok2
  (e_Tok2
  (e_Tok2
  (e_Lok (ld_aload_n_0 (x_dk dn_353_0_0_ok 9 rfl)))
  (e_Lok (ps_iconst_0 (x_dk dn_353_0_0_ok 10 rfl))))
  (e_Tok2
  (e_Lok (ps_iconst_0 (x_dk dn_353_0_0_ok 11 rfl)))
  (e_Lok (lk_12_595 ho_353 (x_dk dn_353_0_0_ok 12 rfl)))))
  (e_Tok2
  (e_Tok2
  (e_Lok (ld_aload_n_0 (x_dk dn_353_0_0_ok 13 rfl)))
  (e_Lok (lk_12_530g ho_353 (x_dk dn_353_0_0_ok 14 rfl))))
  (e_Tok2
  (e_Lok (e_st (I := eI) (er_ifne (off := 25) (tg := 54) (x_dk dn_353_0_0_ok 15 rfl) (by decide)) nx_if1))
  (e_Tok2
  (e_Lok (ld_aload_n_0 (x_dk dn_353_0_0_ok 16 rfl)))
  (e_Lok (ps_bipush_44 (x_dk dn_353_0_0_ok 17 rfl))))))))
  (e_Tok2
  (e_Tok2
  (e_Tok2
  (e_Tok2
  (e_Lok (lk_12_586 ho_353 (x_dk dn_353_0_0_ok 18 rfl)))
  (e_Lok (e_st (I := eI) (er_ifeq (off := 16) (tg := 54) (x_dk dn_353_0_0_ok 19 rfl) (by decide)) nx_if1)))
  (e_Tok2
  (e_Lok (ld_aload_n_0 (x_dk dn_353_0_0_ok 20 rfl)))
  (e_Lok (lk_12_536 ho_353 (x_dk dn_353_0_0_ok 21 rfl)))))
  (e_Tok2
  (e_Tok2
  (e_Lok (ld_aload_n_0 (x_dk dn_353_0_0_ok 22 rfl)))
  (e_Lok (ps_iconst_0 (x_dk dn_353_0_0_ok 23 rfl))))
  (e_Tok2
  (e_Lok (ps_iconst_0 (x_dk dn_353_0_0_ok 24 rfl)))
  (e_Tok2
  (e_Lok (lk_12_595 ho_353 (x_dk dn_353_0_1_ok 0 rfl)))
  (e_Lok (e_st (I := eI) (er_goto (off := (-26)) (tg := 25) (x_dk dn_353_0_1_ok 1 rfl) (by decide)) nx_goto))))))
  (e_Tok2
  (e_Tok2
  (e_Tok2
  (e_Lok (ld_aload_n_0 (x_dk dn_353_0_1_ok 2 rfl)))
  (e_Lok (ld_aload_n_0 (x_dk dn_353_0_1_ok 3 rfl))))
  (e_Tok2
  (e_Lok (ps_bipush_59 (x_dk dn_353_0_1_ok 4 rfl)))
  (e_Tok2
  (e_Lok (lk_12_586 ho_353 (x_dk dn_353_0_1_ok 5 rfl)))
  (e_Lok (lk_12_555 ho_353 (x_dk dn_353_0_1_ok 6 rfl))))))
  (e_Tok2
  (e_Tok2
  (e_Lok (e_st (I := eI) (er_goto (off := (-64)) (tg := 0) (x_dk dn_353_0_1_ok 7 rfl) (by decide)) nx_goto))
  (e_Lok (ld_aload_n_0 (x_dk dn_353_0_1_ok 8 rfl))))
  (e_Tok2
  (e_Lok (lk_12_530g ho_353 (x_dk dn_353_0_1_ok 9 rfl)))
  (e_Tok2
  (e_Lok (e_st (I := eI) (er_ifne (off := 58) (tg := 129) (x_dk dn_353_0_1_ok 10 rfl) (by decide)) nx_if1))
  (e_Lok (ld_aload_n_0 (x_dk dn_353_0_1_ok 11 rfl)))))))))
def te_353_37 : Nat → eE := (e_T 109 (e_T 89 (e_T 82 (e_T 76 (e_T 75 (e_L 75 (0, ei_push (0, 1) 76, 0, 0)) (e_L 76 (2, e_nof, 332, 2))) (e_T 79 (e_L 79 (0, ei_if1 0 129 82, 0, 0)) (e_L 82 (0, ei_load 0 2 83, 0, 0)))) (e_T 86 (e_T 83 (e_L 83 (2, e_nof, 327, 1)) (e_L 86 (0, ei_load 0 2 87, 0, 0))) (e_T 87 (e_L 87 (0, ei_push (0, 1) 88, 0, 0)) (e_T 88 (e_L 88 (0, ei_load 0 2 89, 0, 0)) (e_L 89 (0, ei_getf eft elay 12 78 92, 0, 0)))))) (e_T 97 (e_T 95 (e_T 92 (e_L 92 (2, e_nof, 338, 3)) (e_L 95 (0, ei_load 0 2 96, 0, 0))) (e_T 96 (e_L 96 (0, ei_load 0 2 97, 0, 0)) (e_L 97 (0, ei_push (0, 58) 99, 0, 0)))) (e_T 102 (e_T 99 (e_L 99 (2, e_nof, 331, 2)) (e_L 102 (2, e_nof, 334, 2))) (e_T 105 (e_L 105 (0, ei_load 0 2 106, 0, 0)) (e_T 106 (e_L 106 (2, e_nof, 348, 1)) (e_L 109 (0, ei_load 0 2 110, 0, 0))))))) (e_T 125 (e_T 115 (e_T 111 (e_T 110 (e_L 110 (0, ei_load 0 2 111, 0, 0)) (e_L 111 (0, ei_push (0, 2) 112, 0, 0))) (e_T 112 (e_L 112 (2, e_nof, 332, 2)) (e_L 115 (2, e_nof, 334, 2)))) (e_T 119 (e_T 118 (e_L 118 (0, ei_load 0 2 119, 0, 0)) (e_L 119 (0, ei_push (0, 45) 121, 0, 0))) (e_T 121 (e_L 121 (0, ei_push (0, 0) 122, 0, 0)) (e_T 122 (e_L 122 (2, e_nof, 336, 3)) (e_L 125 (0, ei_stk ef_pop 126, 0, 0)))))) (e_T 134 (e_T 129 (e_T 126 (e_L 126 (0, ei_goto 67, 0, 0)) (e_L 129 (0, ei_load 0 2 130, 0, 0))) (e_T 130 (e_L 130 (0, ei_load 0 2 131, 0, 0)) (e_T 131 (e_L 131 (0, ei_getf eft elay 12 84 134, 0, 0)) (e_L 134 (0, ei_if1 1 141 137, 0, 0))))) (e_T 138 (e_T 137 (e_L 137 (0, ei_push (0, 1) 138, 0, 0)) (e_L 138 (0, ei_goto 142, 0, 0))) (e_T 141 (e_L 141 (0, ei_push (0, 0) 142, 0, 0)) (e_T 142 (e_L 142 (2, e_nof, 334, 2)) (e_L 145 (1, e_nof, 0, 0))))))))
set_option maxRecDepth 20000 in
set_option maxHeartbeats 4000000 in
theorem te_353_37_ok : ∀ pc, e_EOq eft cls elay eI n_353 pc (te_353_37 pc) :=
  (e_Tok2
  (e_Tok2
  (e_Tok2
  (e_Tok2
  (e_Tok2
  (e_Lok (ps_iconst_1 (x_dk dn_353_0_1_ok 12 rfl)))
  (e_Lok (lk_12_562 ho_353 (x_dk dn_353_0_1_ok 13 rfl))))
  (e_Tok2
  (e_Lok (e_st (I := eI) (er_ifeq (off := 50) (tg := 129) (x_dk dn_353_0_1_ok 14 rfl) (by decide)) nx_if1))
  (e_Lok (ld_aload_n_0 (x_dk dn_353_0_1_ok 15 rfl)))))
  (e_Tok2
  (e_Tok2
  (e_Lok (lk_12_536 ho_353 (x_dk dn_353_0_1_ok 16 rfl)))
  (e_Lok (ld_aload_n_0 (x_dk dn_353_0_1_ok 17 rfl))))
  (e_Tok2
  (e_Lok (ps_iconst_1 (x_dk dn_353_0_1_ok 18 rfl)))
  (e_Tok2
  (e_Lok (ld_aload_n_0 (x_dk dn_353_0_1_ok 19 rfl)))
  (e_Lok (lk_12_546g ho_353 (x_dk dn_353_0_1_ok 20 rfl)))))))
  (e_Tok2
  (e_Tok2
  (e_Tok2
  (e_Lok (lk_12_595 ho_353 (x_dk dn_353_0_1_ok 21 rfl)))
  (e_Lok (ld_aload_n_0 (x_dk dn_353_0_1_ok 22 rfl))))
  (e_Tok2
  (e_Lok (ld_aload_n_0 (x_dk dn_353_0_1_ok 23 rfl)))
  (e_Lok (ps_bipush_58 (x_dk dn_353_0_1_ok 24 rfl)))))
  (e_Tok2
  (e_Tok2
  (e_Lok (lk_12_586 ho_353 (x_dk dn_353_0_2_ok 0 rfl)))
  (e_Lok (lk_12_555 ho_353 (x_dk dn_353_0_2_ok 1 rfl))))
  (e_Tok2
  (e_Lok (ld_aload_n_0 (x_dk dn_353_0_2_ok 2 rfl)))
  (e_Tok2
  (e_Lok (lk_12_623 ho_353 (x_dk dn_353_0_2_ok 3 rfl)))
  (e_Lok (ld_aload_n_0 (x_dk dn_353_0_2_ok 4 rfl))))))))
  (e_Tok2
  (e_Tok2
  (e_Tok2
  (e_Tok2
  (e_Lok (ld_aload_n_0 (x_dk dn_353_0_2_ok 5 rfl)))
  (e_Lok (ps_iconst_2 (x_dk dn_353_0_2_ok 6 rfl))))
  (e_Tok2
  (e_Lok (lk_12_562 ho_353 (x_dk dn_353_0_2_ok 7 rfl)))
  (e_Lok (lk_12_555 ho_353 (x_dk dn_353_0_2_ok 8 rfl)))))
  (e_Tok2
  (e_Tok2
  (e_Lok (ld_aload_n_0 (x_dk dn_353_0_2_ok 9 rfl)))
  (e_Lok (ps_bipush_45 (x_dk dn_353_0_2_ok 10 rfl))))
  (e_Tok2
  (e_Lok (ps_iconst_0 (x_dk dn_353_0_2_ok 11 rfl)))
  (e_Tok2
  (e_Lok (lk_12_565 ho_353 (x_dk dn_353_0_2_ok 12 rfl)))
  (e_Lok (e_st (I := eI) (er_pop (x_dk dn_353_0_2_ok 13 rfl)) (nx_stk bf_pop)))))))
  (e_Tok2
  (e_Tok2
  (e_Tok2
  (e_Lok (e_st (I := eI) (er_goto (off := (-59)) (tg := 67) (x_dk dn_353_0_2_ok 14 rfl) (by decide)) nx_goto))
  (e_Lok (ld_aload_n_0 (x_dk dn_353_0_2_ok 15 rfl))))
  (e_Tok2
  (e_Lok (ld_aload_n_0 (x_dk dn_353_0_2_ok 16 rfl)))
  (e_Tok2
  (e_Lok (lk_12_497g ho_353 (x_dk dn_353_0_2_ok 17 rfl)))
  (e_Lok (e_st (I := eI) (er_ifne (off := 7) (tg := 141) (x_dk dn_353_0_2_ok 18 rfl) (by decide)) nx_if1)))))
  (e_Tok2
  (e_Tok2
  (e_Lok (ps_iconst_1 (x_dk dn_353_0_2_ok 19 rfl)))
  (e_Lok (e_st (I := eI) (er_goto (off := 4) (tg := 142) (x_dk dn_353_0_2_ok 20 rfl) (by decide)) nx_goto)))
  (e_Tok2
  (e_Lok (ps_iconst_0 (x_dk dn_353_0_2_ok 21 rfl)))
  (e_Tok2
  (e_Lok (lk_12_555 ho_353 (x_dk dn_353_0_2_ok 22 rfl)))
  (e_Lok (e_rt (I := eI) (k := 0) ⟨(x_dk dn_353_0_2_ok 23 rfl), rfl⟩))))))))
def te_353 : Nat → eE := (e_T 74 te_353_0 te_353_37)
theorem te_353_ok : ∀ pc, e_EOq eft cls elay eI n_353 pc (te_353 pc) := (e_Tok2 (te_353_0_ok) (te_353_37_ok))
theorem ho_354 : (xm_y n_354).cls = "RobotCellHouseModel" := rfl
def dn_354_0_0 : List (Nat × Instr × Nat) := [(0, .aload_n 0, 1), (1, .getfield 216, 3), (4, .iload_n 1, 1), (5, .iaload, 1), (6, .aload_n 0, 1), (7, .getfield 216, 3), (10, .iload_n 2, 1), (11, .iaload, 1), (12, .if_icmp .ne 7, 3), (15, .iconst 1, 1), (16, .goto 4, 3), (19, .iconst 0, 1), (20, .istore_n 3, 1), (21, .iconst 0, 1), (22, .istore 4, 2), (24, .iload 4, 2), (26, .aload_n 0, 1), (27, .getfield 216, 3), (30, .iload_n 1, 1), (31, .iaload, 1), (32, .if_icmp .ge 50, 3), (35, .iload_n 3, 1), (36, .ifCond .eq 46, 3), (39, .aload_n 0, 1), (40, .getfield 27, 3)]
set_option maxRecDepth 20000 in
theorem dn_354_0_0_ok : dn_354_0_0.all (fun q => decide (decode (xm_b n_354) q.1 = .ok (q.2.1, q.2.2))) = true := xa_g_ok (by decide +kernel)
def dn_354_0_1 : List (Nat × Instr × Nat) := [(43, .aload_n 0, 1), (44, .getfield 213, 3), (47, .iload_n 1, 1), (48, .iaload, 1), (49, .iload 4, 2), (51, .iadd, 1), (52, .baload, 1), (53, .aload_n 0, 1), (54, .getfield 27, 3), (57, .aload_n 0, 1), (58, .getfield 213, 3), (61, .iload_n 2, 1), (62, .iaload, 1), (63, .iload 4, 2), (65, .iadd, 1), (66, .baload, 1), (67, .if_icmp .ne 7, 3), (70, .iconst 1, 1), (71, .goto 4, 3), (74, .iconst 0, 1), (75, .istore_n 3, 1), (76, .iinc 4 1, 3), (79, .goto (-55), 3), (82, .iload_n 3, 1), (83, .ireturn, 1)]
set_option maxRecDepth 20000 in
theorem dn_354_0_1_ok : dn_354_0_1.all (fun q => decide (decode (xm_b n_354) q.1 = .ok (q.2.1, q.2.2))) = true := xa_g_ok (by decide +kernel)
def te_354_0 : Nat → eE := (e_T 19 (e_T 7 (e_T 4 (e_T 0 (e_L 0 (0, ei_load 0 2 1, 0, 0)) (e_T 1 (e_L 1 (0, ei_getf eft elay 12 92 4, 0, 0)) (e_L 4 (0, ei_load 1 0 5, 0, 0)))) (e_T 5 (e_L 5 (0, ei_ald elay false 6, 0, 0)) (e_T 6 (e_L 6 (0, ei_load 0 2 7, 0, 0)) (e_L 7 (0, ei_getf eft elay 12 92 10, 0, 0))))) (e_T 12 (e_T 10 (e_L 10 (0, ei_load 2 0 11, 0, 0)) (e_T 11 (e_L 11 (0, ei_ald elay false 12, 0, 0)) (e_L 12 (0, ei_if2 1 19 15, 0, 0)))) (e_T 15 (e_L 15 (0, ei_push (0, 1) 16, 0, 0)) (e_T 16 (e_L 16 (0, ei_goto 20, 0, 0)) (e_L 19 (0, ei_push (0, 0) 20, 0, 0)))))) (e_T 27 (e_T 22 (e_T 20 (e_L 20 (0, ei_stor 3 0 21, 0, 0)) (e_T 21 (e_L 21 (0, ei_push (0, 0) 22, 0, 0)) (e_L 22 (0, ei_stor 4 0 24, 0, 0)))) (e_T 24 (e_L 24 (0, ei_load 4 0 26, 0, 0)) (e_T 26 (e_L 26 (0, ei_load 0 2 27, 0, 0)) (e_L 27 (0, ei_getf eft elay 12 92 30, 0, 0))))) (e_T 32 (e_T 30 (e_L 30 (0, ei_load 1 0 31, 0, 0)) (e_T 31 (e_L 31 (0, ei_ald elay false 32, 0, 0)) (e_L 32 (0, ei_if2 3 82 35, 0, 0)))) (e_T 36 (e_T 35 (e_L 35 (0, ei_load 3 0 36, 0, 0)) (e_L 36 (0, ei_if1 0 82 39, 0, 0))) (e_T 39 (e_L 39 (0, ei_load 0 2 40, 0, 0)) (e_L 40 (0, ei_getf eft elay 12 8 43, 0, 0)))))))
set_option maxRecDepth 20000 in
set_option maxHeartbeats 4000000 in
theorem te_354_0_ok : ∀ pc, e_EOq eft cls elay eI n_354 pc (te_354_0 pc) :=
  (e_Tok2
  (e_Tok2
  (e_Tok2
  (e_Tok2
  (e_Lok (ld_aload_n_0 (x_dk dn_354_0_0_ok 0 rfl)))
  (e_Tok2
  (e_Lok (lk_12_216g ho_354 (x_dk dn_354_0_0_ok 1 rfl)))
  (e_Lok (ld_iload_n_1 (x_dk dn_354_0_0_ok 2 rfl)))))
  (e_Tok2
  (e_Lok (sm_iaload (x_dk dn_354_0_0_ok 3 rfl)))
  (e_Tok2
  (e_Lok (ld_aload_n_0 (x_dk dn_354_0_0_ok 4 rfl)))
  (e_Lok (lk_12_216g ho_354 (x_dk dn_354_0_0_ok 5 rfl))))))
  (e_Tok2
  (e_Tok2
  (e_Lok (ld_iload_n_2 (x_dk dn_354_0_0_ok 6 rfl)))
  (e_Tok2
  (e_Lok (sm_iaload (x_dk dn_354_0_0_ok 7 rfl)))
  (e_Lok (e_st (I := eI) (er_icmpne (off := 7) (tg := 19) (x_dk dn_354_0_0_ok 8 rfl) (by decide)) nx_if2))))
  (e_Tok2
  (e_Lok (ps_iconst_1 (x_dk dn_354_0_0_ok 9 rfl)))
  (e_Tok2
  (e_Lok (e_st (I := eI) (er_goto (off := 4) (tg := 20) (x_dk dn_354_0_0_ok 10 rfl) (by decide)) nx_goto))
  (e_Lok (ps_iconst_0 (x_dk dn_354_0_0_ok 11 rfl)))))))
  (e_Tok2
  (e_Tok2
  (e_Tok2
  (e_Lok (e_st (I := eI) (er_istore_n (i := 3) (x_dk dn_354_0_0_ok 12 rfl) (by decide +kernel)) nx_stor))
  (e_Tok2
  (e_Lok (ps_iconst_0 (x_dk dn_354_0_0_ok 13 rfl)))
  (e_Lok (e_st (I := eI) (er_istore (i := 4) (x_dk dn_354_0_0_ok 14 rfl) (by decide +kernel)) nx_stor))))
  (e_Tok2
  (e_Lok (ld_iload_4 (x_dk dn_354_0_0_ok 15 rfl)))
  (e_Tok2
  (e_Lok (ld_aload_n_0 (x_dk dn_354_0_0_ok 16 rfl)))
  (e_Lok (lk_12_216g ho_354 (x_dk dn_354_0_0_ok 17 rfl))))))
  (e_Tok2
  (e_Tok2
  (e_Lok (ld_iload_n_1 (x_dk dn_354_0_0_ok 18 rfl)))
  (e_Tok2
  (e_Lok (sm_iaload (x_dk dn_354_0_0_ok 19 rfl)))
  (e_Lok (e_st (I := eI) (er_icmpge (off := 50) (tg := 82) (x_dk dn_354_0_0_ok 20 rfl) (by decide)) nx_if2))))
  (e_Tok2
  (e_Tok2
  (e_Lok (ld_iload_n_3 (x_dk dn_354_0_0_ok 21 rfl)))
  (e_Lok (e_st (I := eI) (er_ifeq (off := 46) (tg := 82) (x_dk dn_354_0_0_ok 22 rfl) (by decide)) nx_if1)))
  (e_Tok2
  (e_Lok (ld_aload_n_0 (x_dk dn_354_0_0_ok 23 rfl)))
  (e_Lok (lk_12_27g ho_354 (x_dk dn_354_0_0_ok 24 rfl))))))))
def te_354_25 : Nat → eE := (e_T 61 (e_T 51 (e_T 47 (e_T 43 (e_L 43 (0, ei_load 0 2 44, 0, 0)) (e_T 44 (e_L 44 (0, ei_getf eft elay 12 91 47, 0, 0)) (e_L 47 (0, ei_load 1 0 48, 0, 0)))) (e_T 48 (e_L 48 (0, ei_ald elay false 49, 0, 0)) (e_T 49 (e_L 49 (0, ei_load 4 0 51, 0, 0)) (e_L 51 (0, ei_bin eF_add 52, 0, 0))))) (e_T 54 (e_T 52 (e_L 52 (0, ei_ald elay true 53, 0, 0)) (e_T 53 (e_L 53 (0, ei_load 0 2 54, 0, 0)) (e_L 54 (0, ei_getf eft elay 12 8 57, 0, 0)))) (e_T 57 (e_L 57 (0, ei_load 0 2 58, 0, 0)) (e_T 58 (e_L 58 (0, ei_getf eft elay 12 91 61, 0, 0)) (e_L 61 (0, ei_load 2 0 62, 0, 0)))))) (e_T 70 (e_T 65 (e_T 62 (e_L 62 (0, ei_ald elay false 63, 0, 0)) (e_T 63 (e_L 63 (0, ei_load 4 0 65, 0, 0)) (e_L 65 (0, ei_bin eF_add 66, 0, 0)))) (e_T 66 (e_L 66 (0, ei_ald elay true 67, 0, 0)) (e_T 67 (e_L 67 (0, ei_if2 1 74 70, 0, 0)) (e_L 70 (0, ei_push (0, 1) 71, 0, 0))))) (e_T 75 (e_T 71 (e_L 71 (0, ei_goto 75, 0, 0)) (e_T 74 (e_L 74 (0, ei_push (0, 0) 75, 0, 0)) (e_L 75 (0, ei_stor 3 0 76, 0, 0)))) (e_T 79 (e_T 76 (e_L 76 (0, ei_inc 4 1 79, 0, 0)) (e_L 79 (0, ei_goto 24, 0, 0))) (e_T 82 (e_L 82 (0, ei_load 3 0 83, 0, 0)) (e_L 83 (1, e_nof, 4, 0)))))))
set_option maxRecDepth 20000 in
set_option maxHeartbeats 4000000 in
theorem te_354_25_ok : ∀ pc, e_EOq eft cls elay eI n_354 pc (te_354_25 pc) :=
  (e_Tok2
  (e_Tok2
  (e_Tok2
  (e_Tok2
  (e_Lok (ld_aload_n_0 (x_dk dn_354_0_1_ok 0 rfl)))
  (e_Tok2
  (e_Lok (lk_12_213g ho_354 (x_dk dn_354_0_1_ok 1 rfl)))
  (e_Lok (ld_iload_n_1 (x_dk dn_354_0_1_ok 2 rfl)))))
  (e_Tok2
  (e_Lok (sm_iaload (x_dk dn_354_0_1_ok 3 rfl)))
  (e_Tok2
  (e_Lok (ld_iload_4 (x_dk dn_354_0_1_ok 4 rfl)))
  (e_Lok (sm_iadd (x_dk dn_354_0_1_ok 5 rfl))))))
  (e_Tok2
  (e_Tok2
  (e_Lok (e_st (I := eI) (er_baload (x_dk dn_354_0_1_ok 6 rfl)) nx_ald))
  (e_Tok2
  (e_Lok (ld_aload_n_0 (x_dk dn_354_0_1_ok 7 rfl)))
  (e_Lok (lk_12_27g ho_354 (x_dk dn_354_0_1_ok 8 rfl)))))
  (e_Tok2
  (e_Lok (ld_aload_n_0 (x_dk dn_354_0_1_ok 9 rfl)))
  (e_Tok2
  (e_Lok (lk_12_213g ho_354 (x_dk dn_354_0_1_ok 10 rfl)))
  (e_Lok (ld_iload_n_2 (x_dk dn_354_0_1_ok 11 rfl)))))))
  (e_Tok2
  (e_Tok2
  (e_Tok2
  (e_Lok (sm_iaload (x_dk dn_354_0_1_ok 12 rfl)))
  (e_Tok2
  (e_Lok (ld_iload_4 (x_dk dn_354_0_1_ok 13 rfl)))
  (e_Lok (sm_iadd (x_dk dn_354_0_1_ok 14 rfl)))))
  (e_Tok2
  (e_Lok (e_st (I := eI) (er_baload (x_dk dn_354_0_1_ok 15 rfl)) nx_ald))
  (e_Tok2
  (e_Lok (e_st (I := eI) (er_icmpne (off := 7) (tg := 74) (x_dk dn_354_0_1_ok 16 rfl) (by decide)) nx_if2))
  (e_Lok (ps_iconst_1 (x_dk dn_354_0_1_ok 17 rfl))))))
  (e_Tok2
  (e_Tok2
  (e_Lok (e_st (I := eI) (er_goto (off := 4) (tg := 75) (x_dk dn_354_0_1_ok 18 rfl) (by decide)) nx_goto))
  (e_Tok2
  (e_Lok (ps_iconst_0 (x_dk dn_354_0_1_ok 19 rfl)))
  (e_Lok (e_st (I := eI) (er_istore_n (i := 3) (x_dk dn_354_0_1_ok 20 rfl) (by decide +kernel)) nx_stor))))
  (e_Tok2
  (e_Tok2
  (e_Lok (e_st (I := eI) (er_iinc (i := 4) (n := 1) (x_dk dn_354_0_1_ok 21 rfl) (by decide +kernel) (by decide)) nx_inc))
  (e_Lok (e_st (I := eI) (er_goto (off := (-55)) (tg := 24) (x_dk dn_354_0_1_ok 22 rfl) (by decide)) nx_goto)))
  (e_Tok2
  (e_Lok (ld_iload_n_3 (x_dk dn_354_0_1_ok 23 rfl)))
  (e_Lok (e_rt (I := eI) (k := 4) ⟨(x_dk dn_354_0_1_ok 24 rfl), rfl⟩)))))))
def te_354 : Nat → eE := (e_T 40 te_354_0 te_354_25)
theorem te_354_ok : ∀ pc, e_EOq eft cls elay eI n_354 pc (te_354 pc) := (e_Tok2 (te_354_0_ok) (te_354_25_ok))
theorem ho_355 : (xm_y n_355).cls = "RobotCellHouseModel" := rfl
def dn_355_0_0 : List (Nat × Instr × Nat) := [(0, .iconst 0, 1), (1, .istore 4, 2), (3, .iconst 0, 1), (4, .istore 5, 2), (6, .iload 5, 2), (8, .iload_n 3, 1), (9, .if_icmp .ge 36, 3), (12, .aload_n 0, 1), (13, .getfield 210, 3), (16, .iload 5, 2), (18, .iaload, 1), (19, .iload_n 1, 1), (20, .if_icmp .ne 19, 3), (23, .aload_n 0, 1), (24, .iload 5, 2), (26, .iload_n 2, 1), (27, .invokevirtual 632, 3), (30, .ifCond .eq 6, 3), (33, .iload 4, 2), (35, .ireturn, 1), (36, .iinc 4 1, 3), (39, .iinc 5 1, 3), (42, .goto (-36), 3), (45, .iconst (-1), 1), (46, .ireturn, 1)]
set_option maxRecDepth 20000 in
theorem dn_355_0_0_ok : dn_355_0_0.all (fun q => decide (decode (xm_b n_355) q.1 = .ok (q.2.1, q.2.2))) = true := xa_g_ok (by decide +kernel)
def te_355_0 : Nat → eE := (e_T 19 (e_T 8 (e_T 3 (e_T 0 (e_L 0 (0, ei_push (0, 0) 1, 0, 0)) (e_T 1 (e_L 1 (0, ei_stor 4 0 3, 0, 0)) (e_L 3 (0, ei_push (0, 0) 4, 0, 0)))) (e_T 4 (e_L 4 (0, ei_stor 5 0 6, 0, 0)) (e_T 6 (e_L 6 (0, ei_load 5 0 8, 0, 0)) (e_L 8 (0, ei_load 3 0 9, 0, 0))))) (e_T 13 (e_T 9 (e_L 9 (0, ei_if2 3 45 12, 0, 0)) (e_T 12 (e_L 12 (0, ei_load 0 2 13, 0, 0)) (e_L 13 (0, ei_getf eft elay 12 90 16, 0, 0)))) (e_T 16 (e_L 16 (0, ei_load 5 0 18, 0, 0)) (e_T 18 (e_L 18 (0, ei_ald elay false 19, 0, 0)) (e_L 19 (0, ei_load 1 0 20, 0, 0)))))) (e_T 30 (e_T 24 (e_T 20 (e_L 20 (0, ei_if2 1 39 23, 0, 0)) (e_T 23 (e_L 23 (0, ei_load 0 2 24, 0, 0)) (e_L 24 (0, ei_load 5 0 26, 0, 0)))) (e_T 26 (e_L 26 (0, ei_load 2 0 27, 0, 0)) (e_T 27 (e_L 27 (2, e_nof, 354, 3)) (e_L 30 (0, ei_if1 0 36 33, 0, 0))))) (e_T 36 (e_T 33 (e_L 33 (0, ei_load 4 0 35, 0, 0)) (e_T 35 (e_L 35 (1, e_nof, 1, 0)) (e_L 36 (0, ei_inc 4 1 39, 0, 0)))) (e_T 42 (e_T 39 (e_L 39 (0, ei_inc 5 1 42, 0, 0)) (e_L 42 (0, ei_goto 6, 0, 0))) (e_T 45 (e_L 45 (0, ei_push (0, (-1)) 46, 0, 0)) (e_L 46 (1, e_nof, 1, 0)))))))
set_option maxRecDepth 20000 in
set_option maxHeartbeats 4000000 in
theorem te_355_0_ok : ∀ pc, e_EOq eft cls elay eI n_355 pc (te_355_0 pc) :=
  (e_Tok2
  (e_Tok2
  (e_Tok2
  (e_Tok2
  (e_Lok (ps_iconst_0 (x_dk dn_355_0_0_ok 0 rfl)))
  (e_Tok2
  (e_Lok (e_st (I := eI) (er_istore (i := 4) (x_dk dn_355_0_0_ok 1 rfl) (by decide +kernel)) nx_stor))
  (e_Lok (ps_iconst_0 (x_dk dn_355_0_0_ok 2 rfl)))))
  (e_Tok2
  (e_Lok (e_st (I := eI) (er_istore (i := 5) (x_dk dn_355_0_0_ok 3 rfl) (by decide +kernel)) nx_stor))
  (e_Tok2
  (e_Lok (ld_iload_5 (x_dk dn_355_0_0_ok 4 rfl)))
  (e_Lok (ld_iload_n_3 (x_dk dn_355_0_0_ok 5 rfl))))))
  (e_Tok2
  (e_Tok2
  (e_Lok (e_st (I := eI) (er_icmpge (off := 36) (tg := 45) (x_dk dn_355_0_0_ok 6 rfl) (by decide)) nx_if2))
  (e_Tok2
  (e_Lok (ld_aload_n_0 (x_dk dn_355_0_0_ok 7 rfl)))
  (e_Lok (lk_12_210g ho_355 (x_dk dn_355_0_0_ok 8 rfl)))))
  (e_Tok2
  (e_Lok (ld_iload_5 (x_dk dn_355_0_0_ok 9 rfl)))
  (e_Tok2
  (e_Lok (sm_iaload (x_dk dn_355_0_0_ok 10 rfl)))
  (e_Lok (ld_iload_n_1 (x_dk dn_355_0_0_ok 11 rfl)))))))
  (e_Tok2
  (e_Tok2
  (e_Tok2
  (e_Lok (e_st (I := eI) (er_icmpne (off := 19) (tg := 39) (x_dk dn_355_0_0_ok 12 rfl) (by decide)) nx_if2))
  (e_Tok2
  (e_Lok (ld_aload_n_0 (x_dk dn_355_0_0_ok 13 rfl)))
  (e_Lok (ld_iload_5 (x_dk dn_355_0_0_ok 14 rfl)))))
  (e_Tok2
  (e_Lok (ld_iload_n_2 (x_dk dn_355_0_0_ok 15 rfl)))
  (e_Tok2
  (e_Lok (lk_12_632 ho_355 (x_dk dn_355_0_0_ok 16 rfl)))
  (e_Lok (e_st (I := eI) (er_ifeq (off := 6) (tg := 36) (x_dk dn_355_0_0_ok 17 rfl) (by decide)) nx_if1)))))
  (e_Tok2
  (e_Tok2
  (e_Lok (ld_iload_4 (x_dk dn_355_0_0_ok 18 rfl)))
  (e_Tok2
  (e_Lok (e_rt (I := eI) (k := 1) ⟨(x_dk dn_355_0_0_ok 19 rfl), rfl⟩))
  (e_Lok (e_st (I := eI) (er_iinc (i := 4) (n := 1) (x_dk dn_355_0_0_ok 20 rfl) (by decide +kernel) (by decide)) nx_inc))))
  (e_Tok2
  (e_Tok2
  (e_Lok (e_st (I := eI) (er_iinc (i := 5) (n := 1) (x_dk dn_355_0_0_ok 21 rfl) (by decide +kernel) (by decide)) nx_inc))
  (e_Lok (e_st (I := eI) (er_goto (off := (-36)) (tg := 6) (x_dk dn_355_0_0_ok 22 rfl) (by decide)) nx_goto)))
  (e_Tok2
  (e_Lok (ps_iconst_m1 (x_dk dn_355_0_0_ok 23 rfl)))
  (e_Lok (e_rt (I := eI) (k := 1) ⟨(x_dk dn_355_0_0_ok 24 rfl), rfl⟩)))))))
def te_355 : Nat → eE := te_355_0
theorem te_355_ok : ∀ pc, e_EOq eft cls elay eI n_355 pc (te_355 pc) := te_355_0_ok
theorem ho_356 : (xm_y n_356).cls = "RobotCellHouseModel" := rfl
def dn_356_0_0 : List (Nat × Instr × Nat) := [(0, .iconst 0, 1), (1, .istore_n 1, 1), (2, .iload_n 1, 1), (3, .aload_n 0, 1), (4, .getfield 552, 3), (7, .if_icmp .ge 216, 3), (10, .aload_n 0, 1), (11, .getfield 530, 3), (14, .ifCond .ne 209, 3), (17, .aload_n 0, 1), (18, .getfield 210, 3), (21, .iload_n 1, 1), (22, .iaload, 1), (23, .istore_n 2, 1), (24, .iconst 0, 1), (25, .istore_n 3, 1), (26, .iload_n 2, 1), (27, .iconst 2, 1), (28, .if_icmp .ge 117, 3), (31, .aload_n 0, 1), (32, .iconst 0, 1), (33, .iload_n 1, 1), (34, .iload_n 1, 1), (35, .invokevirtual 635, 3), (38, .ifCond .ge 13, 3)]
set_option maxRecDepth 20000 in
theorem dn_356_0_0_ok : dn_356_0_0.all (fun q => decide (decode (xm_b n_356) q.1 = .ok (q.2.1, q.2.2))) = true := xa_g_ok (by decide +kernel)
def dn_356_0_1 : List (Nat × Instr × Nat) := [(41, .aload_n 0, 1), (42, .iconst 1, 1), (43, .iload_n 1, 1), (44, .iload_n 1, 1), (45, .invokevirtual 635, 3), (48, .ifCond .lt 7, 3), (51, .iconst 4, 1), (52, .goto 33, 3), (55, .iload_n 2, 1), (56, .ifCond .ne 12, 3), (59, .aload_n 0, 1), (60, .getfield 204, 3), (63, .iconst 4, 1), (64, .iaload, 1), (65, .goto 9, 3), (68, .aload_n 0, 1), (69, .getfield 201, 3), (72, .iconst 4, 1), (73, .iaload, 1), (74, .bipush 32, 2), (76, .if_icmp .ne 8, 3), (79, .bipush 7, 2), (81, .goto 4, 3), (84, .iconst 0, 1), (85, .istore_n 3, 1)]
set_option maxRecDepth 20000 in
theorem dn_356_0_1_ok : dn_356_0_1.all (fun q => decide (decode (xm_b n_356) q.1 = .ok (q.2.1, q.2.2))) = true := xa_g_ok (by decide +kernel)
def dn_356_0_2 : List (Nat × Instr × Nat) := [(86, .iload_n 3, 1), (87, .ifCond .ne 20, 3), (90, .iload_n 2, 1), (91, .ifCond .ne 16, 3), (94, .aload_n 0, 1), (95, .getfield 204, 3), (98, .iconst 4, 1), (99, .dup2, 1), (100, .iaload, 1), (101, .iconst 1, 1), (102, .iadd, 1), (103, .iastore, 1), (104, .goto 94, 3), (107, .iload_n 3, 1), (108, .ifCond .ne 90, 3), (111, .aload_n 0, 1), (112, .getfield 198, 3), (115, .sipush 128, 3), (118, .aload_n 0, 1), (119, .getfield 201, 3), (122, .iconst 4, 1), (123, .iaload, 1), (124, .iadd, 1), (125, .aload_n 0, 1), (126, .getfield 219, 3)]
set_option maxRecDepth 20000 in
theorem dn_356_0_2_ok : dn_356_0_2.all (fun q => decide (decode (xm_b n_356) q.1 = .ok (q.2.1, q.2.2))) = true := xa_g_ok (by decide +kernel)
def dn_356_0_3 : List (Nat × Instr × Nat) := [(129, .iload_n 1, 1), (130, .iaload, 1), (131, .iastore, 1), (132, .aload_n 0, 1), (133, .getfield 201, 3), (136, .iconst 4, 1), (137, .dup2, 1), (138, .iaload, 1), (139, .iconst 1, 1), (140, .iadd, 1), (141, .iastore, 1), (142, .goto 56, 3), (145, .iload_n 2, 1), (146, .iconst 4, 1), (147, .if_icmp .ne 9, 3), (150, .bipush 6, 2), (152, .istore_n 3, 1), (153, .goto 45, 3), (156, .aload_n 0, 1), (157, .iload_n 2, 1), (158, .iconst 2, 1), (159, .isub, 1), (160, .iload_n 1, 1), (161, .aload_n 0, 1), (162, .getfield 552, 3)]
set_option maxRecDepth 20000 in
theorem dn_356_0_3_ok : dn_356_0_3.all (fun q => decide (decode (xm_b n_356) q.1 = .ok (q.2.1, q.2.2))) = true := xa_g_ok (by decide +kernel)
def dn_356_1_0 : List (Nat × Instr × Nat) := [(165, .invokevirtual 635, 3), (168, .istore 4, 2), (170, .iload 4, 2), (172, .ifCond .ge 7, 3), (175, .iconst 5, 1), (176, .goto 4, 3), (179, .iconst 0, 1), (180, .istore_n 3, 1), (181, .aload_n 0, 1), (182, .getfield 174, 3), (185, .ldc_w 545, 3), (188, .aload_n 0, 1), (189, .getfield 219, 3), (192, .iload_n 1, 1), (193, .iaload, 1), (194, .iadd, 1), (195, .iload 4, 2), (197, .iastore, 1), (198, .iload_n 3, 1), (199, .ifCond .eq 18, 3), (202, .aload_n 0, 1), (203, .iload_n 3, 1), (204, .putfield 530, 3), (207, .aload_n 0, 1), (208, .aload_n 0, 1)]
set_option maxRecDepth 20000 in
theorem dn_356_1_0_ok : dn_356_1_0.all (fun q => decide (decode (xm_b n_356) q.1 = .ok (q.2.1, q.2.2))) = true := xa_g_ok (by decide +kernel)
def dn_356_1_1 : List (Nat × Instr × Nat) := [(209, .getfield 213, 3), (212, .iload_n 1, 1), (213, .iaload, 1), (214, .putfield 533, 3), (217, .iinc 1 1, 3), (220, .goto (-218), 3), (223, .return_, 1)]
set_option maxRecDepth 20000 in
theorem dn_356_1_1_ok : dn_356_1_1.all (fun q => decide (decode (xm_b n_356) q.1 = .ok (q.2.1, q.2.2))) = true := xa_g_ok (by decide +kernel)
def te_356_0 : Nat → eE := (e_T 25 (e_T 11 (e_T 3 (e_T 1 (e_T 0 (e_L 0 (0, ei_push (0, 0) 1, 0, 0)) (e_L 1 (0, ei_stor 1 0 2, 0, 0))) (e_T 2 (e_L 2 (0, ei_load 1 0 3, 0, 0)) (e_L 3 (0, ei_load 0 2 4, 0, 0)))) (e_T 7 (e_T 4 (e_L 4 (0, ei_getf eft elay 12 94 7, 0, 0)) (e_L 7 (0, ei_if2 3 223 10, 0, 0))) (e_T 10 (e_L 10 (0, ei_load 0 2 11, 0, 0)) (e_L 11 (0, ei_getf eft elay 12 88 14, 0, 0))))) (e_T 21 (e_T 17 (e_T 14 (e_L 14 (0, ei_if1 1 223 17, 0, 0)) (e_L 17 (0, ei_load 0 2 18, 0, 0))) (e_T 18 (e_L 18 (0, ei_getf eft elay 12 90 21, 0, 0)) (e_L 21 (0, ei_load 1 0 22, 0, 0)))) (e_T 23 (e_T 22 (e_L 22 (0, ei_ald elay false 23, 0, 0)) (e_L 23 (0, ei_stor 2 0 24, 0, 0))) (e_T 24 (e_L 24 (0, ei_push (0, 0) 25, 0, 0)) (e_L 25 (0, ei_stor 3 0 26, 0, 0)))))) (e_T 35 (e_T 31 (e_T 27 (e_T 26 (e_L 26 (0, ei_load 2 0 27, 0, 0)) (e_L 27 (0, ei_push (0, 2) 28, 0, 0))) (e_T 28 (e_L 28 (0, ei_if2 3 145 31, 0, 0)) (e_L 31 (0, ei_load 0 2 32, 0, 0)))) (e_T 33 (e_T 32 (e_L 32 (0, ei_push (0, 0) 33, 0, 0)) (e_L 33 (0, ei_load 1 0 34, 0, 0))) (e_T 34 (e_L 34 (0, ei_load 1 0 35, 0, 0)) (e_L 35 (2, e_nof, 355, 4))))) (e_T 43 (e_T 41 (e_T 38 (e_L 38 (0, ei_if1 3 51 41, 0, 0)) (e_L 41 (0, ei_load 0 2 42, 0, 0))) (e_T 42 (e_L 42 (0, ei_push (0, 1) 43, 0, 0)) (e_L 43 (0, ei_load 1 0 44, 0, 0)))) (e_T 45 (e_T 44 (e_L 44 (0, ei_load 1 0 45, 0, 0)) (e_L 45 (2, e_nof, 355, 4))) (e_T 48 (e_L 48 (0, ei_if1 2 55 51, 0, 0)) (e_T 51 (e_L 51 (0, ei_push (0, 4) 52, 0, 0)) (e_L 52 (0, ei_goto 85, 0, 0))))))))
set_option maxRecDepth 20000 in
set_option maxHeartbeats 4000000 in
theorem te_356_0_ok : ∀ pc, e_EOq eft cls elay eI n_356 pc (te_356_0 pc) :=
  (e_Tok2
  (e_Tok2
  (e_Tok2
  (e_Tok2
  (e_Tok2
  (e_Lok (ps_iconst_0 (x_dk dn_356_0_0_ok 0 rfl)))
  (e_Lok (e_st (I := eI) (er_istore_n (i := 1) (x_dk dn_356_0_0_ok 1 rfl) (by decide +kernel)) nx_stor)))
  (e_Tok2
  (e_Lok (ld_iload_n_1 (x_dk dn_356_0_0_ok 2 rfl)))
  (e_Lok (ld_aload_n_0 (x_dk dn_356_0_0_ok 3 rfl)))))
  (e_Tok2
  (e_Tok2
  (e_Lok (lk_12_552g ho_356 (x_dk dn_356_0_0_ok 4 rfl)))
  (e_Lok (e_st (I := eI) (er_icmpge (off := 216) (tg := 223) (x_dk dn_356_0_0_ok 5 rfl) (by decide)) nx_if2)))
  (e_Tok2
  (e_Lok (ld_aload_n_0 (x_dk dn_356_0_0_ok 6 rfl)))
  (e_Lok (lk_12_530g ho_356 (x_dk dn_356_0_0_ok 7 rfl))))))
  (e_Tok2
  (e_Tok2
  (e_Tok2
  (e_Lok (e_st (I := eI) (er_ifne (off := 209) (tg := 223) (x_dk dn_356_0_0_ok 8 rfl) (by decide)) nx_if1))
  (e_Lok (ld_aload_n_0 (x_dk dn_356_0_0_ok 9 rfl))))
  (e_Tok2
  (e_Lok (lk_12_210g ho_356 (x_dk dn_356_0_0_ok 10 rfl)))
  (e_Lok (ld_iload_n_1 (x_dk dn_356_0_0_ok 11 rfl)))))
  (e_Tok2
  (e_Tok2
  (e_Lok (sm_iaload (x_dk dn_356_0_0_ok 12 rfl)))
  (e_Lok (e_st (I := eI) (er_istore_n (i := 2) (x_dk dn_356_0_0_ok 13 rfl) (by decide +kernel)) nx_stor)))
  (e_Tok2
  (e_Lok (ps_iconst_0 (x_dk dn_356_0_0_ok 14 rfl)))
  (e_Lok (e_st (I := eI) (er_istore_n (i := 3) (x_dk dn_356_0_0_ok 15 rfl) (by decide +kernel)) nx_stor))))))
  (e_Tok2
  (e_Tok2
  (e_Tok2
  (e_Tok2
  (e_Lok (ld_iload_n_2 (x_dk dn_356_0_0_ok 16 rfl)))
  (e_Lok (ps_iconst_2 (x_dk dn_356_0_0_ok 17 rfl))))
  (e_Tok2
  (e_Lok (e_st (I := eI) (er_icmpge (off := 117) (tg := 145) (x_dk dn_356_0_0_ok 18 rfl) (by decide)) nx_if2))
  (e_Lok (ld_aload_n_0 (x_dk dn_356_0_0_ok 19 rfl)))))
  (e_Tok2
  (e_Tok2
  (e_Lok (ps_iconst_0 (x_dk dn_356_0_0_ok 20 rfl)))
  (e_Lok (ld_iload_n_1 (x_dk dn_356_0_0_ok 21 rfl))))
  (e_Tok2
  (e_Lok (ld_iload_n_1 (x_dk dn_356_0_0_ok 22 rfl)))
  (e_Lok (lk_12_635 ho_356 (x_dk dn_356_0_0_ok 23 rfl))))))
  (e_Tok2
  (e_Tok2
  (e_Tok2
  (e_Lok (e_st (I := eI) (er_ifge (off := 13) (tg := 51) (x_dk dn_356_0_0_ok 24 rfl) (by decide)) nx_if1))
  (e_Lok (ld_aload_n_0 (x_dk dn_356_0_1_ok 0 rfl))))
  (e_Tok2
  (e_Lok (ps_iconst_1 (x_dk dn_356_0_1_ok 1 rfl)))
  (e_Lok (ld_iload_n_1 (x_dk dn_356_0_1_ok 2 rfl)))))
  (e_Tok2
  (e_Tok2
  (e_Lok (ld_iload_n_1 (x_dk dn_356_0_1_ok 3 rfl)))
  (e_Lok (lk_12_635 ho_356 (x_dk dn_356_0_1_ok 4 rfl))))
  (e_Tok2
  (e_Lok (e_st (I := eI) (er_iflt (off := 7) (tg := 55) (x_dk dn_356_0_1_ok 5 rfl) (by decide)) nx_if1))
  (e_Tok2
  (e_Lok (ps_iconst_4 (x_dk dn_356_0_1_ok 6 rfl)))
  (e_Lok (e_st (I := eI) (er_goto (off := 33) (tg := 85) (x_dk dn_356_0_1_ok 7 rfl) (by decide)) nx_goto))))))))
def te_356_33 : Nat → eE := (e_T 84 (e_T 68 (e_T 60 (e_T 56 (e_T 55 (e_L 55 (0, ei_load 2 0 56, 0, 0)) (e_L 56 (0, ei_if1 1 68 59, 0, 0))) (e_T 59 (e_L 59 (0, ei_load 0 2 60, 0, 0)) (e_L 60 (0, ei_getf eft elay 12 76 63, 0, 0)))) (e_T 64 (e_T 63 (e_L 63 (0, ei_push (0, 4) 64, 0, 0)) (e_L 64 (0, ei_ald elay false 65, 0, 0))) (e_T 65 (e_L 65 (0, ei_goto 74, 0, 0)) (e_L 68 (0, ei_load 0 2 69, 0, 0))))) (e_T 74 (e_T 72 (e_T 69 (e_L 69 (0, ei_getf eft elay 12 75 72, 0, 0)) (e_L 72 (0, ei_push (0, 4) 73, 0, 0))) (e_T 73 (e_L 73 (0, ei_ald elay false 74, 0, 0)) (e_L 74 (0, ei_push (0, 32) 76, 0, 0)))) (e_T 79 (e_T 76 (e_L 76 (0, ei_if2 1 84 79, 0, 0)) (e_L 79 (0, ei_push (0, 7) 81, 0, 0))) (e_T 81 (e_L 81 (0, ei_goto 85, 0, 0)) (e_L 84 (0, ei_push (0, 0) 85, 0, 0)))))) (e_T 98 (e_T 90 (e_T 86 (e_T 85 (e_L 85 (0, ei_stor 3 0 86, 0, 0)) (e_L 86 (0, ei_load 3 0 87, 0, 0))) (e_T 87 (e_L 87 (0, ei_if1 1 107 90, 0, 0)) (e_L 90 (0, ei_load 2 0 91, 0, 0)))) (e_T 94 (e_T 91 (e_L 91 (0, ei_if1 1 107 94, 0, 0)) (e_L 94 (0, ei_load 0 2 95, 0, 0))) (e_T 95 (e_L 95 (0, ei_getf eft elay 12 76 98, 0, 0)) (e_L 98 (0, ei_push (0, 4) 99, 0, 0))))) (e_T 102 (e_T 100 (e_T 99 (e_L 99 (0, ei_stk ef_dup2 100, 0, 0)) (e_L 100 (0, ei_ald elay false 101, 0, 0))) (e_T 101 (e_L 101 (0, ei_push (0, 1) 102, 0, 0)) (e_L 102 (0, ei_bin eF_add 103, 0, 0)))) (e_T 104 (e_T 103 (e_L 103 (0, ei_ast elay false 104, 0, 0)) (e_L 104 (0, ei_goto 198, 0, 0))) (e_T 107 (e_L 107 (0, ei_load 3 0 108, 0, 0)) (e_T 108 (e_L 108 (0, ei_if1 1 198 111, 0, 0)) (e_L 111 (0, ei_load 0 2 112, 0, 0))))))))
set_option maxRecDepth 20000 in
set_option maxHeartbeats 4000000 in
theorem te_356_33_ok : ∀ pc, e_EOq eft cls elay eI n_356 pc (te_356_33 pc) :=
  (e_Tok2
  (e_Tok2
  (e_Tok2
  (e_Tok2
  (e_Tok2
  (e_Lok (ld_iload_n_2 (x_dk dn_356_0_1_ok 8 rfl)))
  (e_Lok (e_st (I := eI) (er_ifne (off := 12) (tg := 68) (x_dk dn_356_0_1_ok 9 rfl) (by decide)) nx_if1)))
  (e_Tok2
  (e_Lok (ld_aload_n_0 (x_dk dn_356_0_1_ok 10 rfl)))
  (e_Lok (lk_12_204g ho_356 (x_dk dn_356_0_1_ok 11 rfl)))))
  (e_Tok2
  (e_Tok2
  (e_Lok (ps_iconst_4 (x_dk dn_356_0_1_ok 12 rfl)))
  (e_Lok (sm_iaload (x_dk dn_356_0_1_ok 13 rfl))))
  (e_Tok2
  (e_Lok (e_st (I := eI) (er_goto (off := 9) (tg := 74) (x_dk dn_356_0_1_ok 14 rfl) (by decide)) nx_goto))
  (e_Lok (ld_aload_n_0 (x_dk dn_356_0_1_ok 15 rfl))))))
  (e_Tok2
  (e_Tok2
  (e_Tok2
  (e_Lok (lk_12_201g ho_356 (x_dk dn_356_0_1_ok 16 rfl)))
  (e_Lok (ps_iconst_4 (x_dk dn_356_0_1_ok 17 rfl))))
  (e_Tok2
  (e_Lok (sm_iaload (x_dk dn_356_0_1_ok 18 rfl)))
  (e_Lok (ps_bipush_32 (x_dk dn_356_0_1_ok 19 rfl)))))
  (e_Tok2
  (e_Tok2
  (e_Lok (e_st (I := eI) (er_icmpne (off := 8) (tg := 84) (x_dk dn_356_0_1_ok 20 rfl) (by decide)) nx_if2))
  (e_Lok (ps_bipush_7 (x_dk dn_356_0_1_ok 21 rfl))))
  (e_Tok2
  (e_Lok (e_st (I := eI) (er_goto (off := 4) (tg := 85) (x_dk dn_356_0_1_ok 22 rfl) (by decide)) nx_goto))
  (e_Lok (ps_iconst_0 (x_dk dn_356_0_1_ok 23 rfl)))))))
  (e_Tok2
  (e_Tok2
  (e_Tok2
  (e_Tok2
  (e_Lok (e_st (I := eI) (er_istore_n (i := 3) (x_dk dn_356_0_1_ok 24 rfl) (by decide +kernel)) nx_stor))
  (e_Lok (ld_iload_n_3 (x_dk dn_356_0_2_ok 0 rfl))))
  (e_Tok2
  (e_Lok (e_st (I := eI) (er_ifne (off := 20) (tg := 107) (x_dk dn_356_0_2_ok 1 rfl) (by decide)) nx_if1))
  (e_Lok (ld_iload_n_2 (x_dk dn_356_0_2_ok 2 rfl)))))
  (e_Tok2
  (e_Tok2
  (e_Lok (e_st (I := eI) (er_ifne (off := 16) (tg := 107) (x_dk dn_356_0_2_ok 3 rfl) (by decide)) nx_if1))
  (e_Lok (ld_aload_n_0 (x_dk dn_356_0_2_ok 4 rfl))))
  (e_Tok2
  (e_Lok (lk_12_204g ho_356 (x_dk dn_356_0_2_ok 5 rfl)))
  (e_Lok (ps_iconst_4 (x_dk dn_356_0_2_ok 6 rfl))))))
  (e_Tok2
  (e_Tok2
  (e_Tok2
  (e_Lok (e_st (I := eI) (er_dup2 (x_dk dn_356_0_2_ok 7 rfl)) (nx_stk bf_dup2)))
  (e_Lok (sm_iaload (x_dk dn_356_0_2_ok 8 rfl))))
  (e_Tok2
  (e_Lok (ps_iconst_1 (x_dk dn_356_0_2_ok 9 rfl)))
  (e_Lok (sm_iadd (x_dk dn_356_0_2_ok 10 rfl)))))
  (e_Tok2
  (e_Tok2
  (e_Lok (sm_iastore (x_dk dn_356_0_2_ok 11 rfl)))
  (e_Lok (e_st (I := eI) (er_goto (off := 94) (tg := 198) (x_dk dn_356_0_2_ok 12 rfl) (by decide)) nx_goto)))
  (e_Tok2
  (e_Lok (ld_iload_n_3 (x_dk dn_356_0_2_ok 13 rfl)))
  (e_Tok2
  (e_Lok (e_st (I := eI) (er_ifne (off := 90) (tg := 198) (x_dk dn_356_0_2_ok 14 rfl) (by decide)) nx_if1))
  (e_Lok (ld_aload_n_0 (x_dk dn_356_0_2_ok 15 rfl)))))))))
def te_356_66 : Nat → eE := (e_T 137 (e_T 125 (e_T 119 (e_T 115 (e_T 112 (e_L 112 (0, ei_getf eft elay 12 74 115, 0, 0)) (e_L 115 (0, ei_push (0, 128) 118, 0, 0))) (e_T 118 (e_L 118 (0, ei_load 0 2 119, 0, 0)) (e_L 119 (0, ei_getf eft elay 12 75 122, 0, 0)))) (e_T 123 (e_T 122 (e_L 122 (0, ei_push (0, 4) 123, 0, 0)) (e_L 123 (0, ei_ald elay false 124, 0, 0))) (e_T 124 (e_L 124 (0, ei_bin eF_add 125, 0, 0)) (e_L 125 (0, ei_load 0 2 126, 0, 0))))) (e_T 131 (e_T 129 (e_T 126 (e_L 126 (0, ei_getf eft elay 12 93 129, 0, 0)) (e_L 129 (0, ei_load 1 0 130, 0, 0))) (e_T 130 (e_L 130 (0, ei_ald elay false 131, 0, 0)) (e_L 131 (0, ei_ast elay false 132, 0, 0)))) (e_T 133 (e_T 132 (e_L 132 (0, ei_load 0 2 133, 0, 0)) (e_L 133 (0, ei_getf eft elay 12 75 136, 0, 0))) (e_T 136 (e_L 136 (0, ei_push (0, 4) 137, 0, 0)) (e_L 137 (0, ei_stk ef_dup2 138, 0, 0)))))) (e_T 147 (e_T 141 (e_T 139 (e_T 138 (e_L 138 (0, ei_ald elay false 139, 0, 0)) (e_L 139 (0, ei_push (0, 1) 140, 0, 0))) (e_T 140 (e_L 140 (0, ei_bin eF_add 141, 0, 0)) (e_L 141 (0, ei_ast elay false 142, 0, 0)))) (e_T 145 (e_T 142 (e_L 142 (0, ei_goto 198, 0, 0)) (e_L 145 (0, ei_load 2 0 146, 0, 0))) (e_T 146 (e_L 146 (0, ei_push (0, 4) 147, 0, 0)) (e_L 147 (0, ei_if2 1 156 150, 0, 0))))) (e_T 156 (e_T 152 (e_T 150 (e_L 150 (0, ei_push (0, 6) 152, 0, 0)) (e_L 152 (0, ei_stor 3 0 153, 0, 0))) (e_T 153 (e_L 153 (0, ei_goto 198, 0, 0)) (e_L 156 (0, ei_load 0 2 157, 0, 0)))) (e_T 158 (e_T 157 (e_L 157 (0, ei_load 2 0 158, 0, 0)) (e_L 158 (0, ei_push (0, 2) 159, 0, 0))) (e_T 159 (e_L 159 (0, ei_bin eF_sub 160, 0, 0)) (e_T 160 (e_L 160 (0, ei_load 1 0 161, 0, 0)) (e_L 161 (0, ei_load 0 2 162, 0, 0))))))))
set_option maxRecDepth 20000 in
set_option maxHeartbeats 4000000 in
theorem te_356_66_ok : ∀ pc, e_EOq eft cls elay eI n_356 pc (te_356_66 pc) :=
  (e_Tok2
  (e_Tok2
  (e_Tok2
  (e_Tok2
  (e_Tok2
  (e_Lok (lk_12_198g ho_356 (x_dk dn_356_0_2_ok 16 rfl)))
  (e_Lok (ps_sipush_128 (x_dk dn_356_0_2_ok 17 rfl))))
  (e_Tok2
  (e_Lok (ld_aload_n_0 (x_dk dn_356_0_2_ok 18 rfl)))
  (e_Lok (lk_12_201g ho_356 (x_dk dn_356_0_2_ok 19 rfl)))))
  (e_Tok2
  (e_Tok2
  (e_Lok (ps_iconst_4 (x_dk dn_356_0_2_ok 20 rfl)))
  (e_Lok (sm_iaload (x_dk dn_356_0_2_ok 21 rfl))))
  (e_Tok2
  (e_Lok (sm_iadd (x_dk dn_356_0_2_ok 22 rfl)))
  (e_Lok (ld_aload_n_0 (x_dk dn_356_0_2_ok 23 rfl))))))
  (e_Tok2
  (e_Tok2
  (e_Tok2
  (e_Lok (lk_12_219g ho_356 (x_dk dn_356_0_2_ok 24 rfl)))
  (e_Lok (ld_iload_n_1 (x_dk dn_356_0_3_ok 0 rfl))))
  (e_Tok2
  (e_Lok (sm_iaload (x_dk dn_356_0_3_ok 1 rfl)))
  (e_Lok (sm_iastore (x_dk dn_356_0_3_ok 2 rfl)))))
  (e_Tok2
  (e_Tok2
  (e_Lok (ld_aload_n_0 (x_dk dn_356_0_3_ok 3 rfl)))
  (e_Lok (lk_12_201g ho_356 (x_dk dn_356_0_3_ok 4 rfl))))
  (e_Tok2
  (e_Lok (ps_iconst_4 (x_dk dn_356_0_3_ok 5 rfl)))
  (e_Lok (e_st (I := eI) (er_dup2 (x_dk dn_356_0_3_ok 6 rfl)) (nx_stk bf_dup2)))))))
  (e_Tok2
  (e_Tok2
  (e_Tok2
  (e_Tok2
  (e_Lok (sm_iaload (x_dk dn_356_0_3_ok 7 rfl)))
  (e_Lok (ps_iconst_1 (x_dk dn_356_0_3_ok 8 rfl))))
  (e_Tok2
  (e_Lok (sm_iadd (x_dk dn_356_0_3_ok 9 rfl)))
  (e_Lok (sm_iastore (x_dk dn_356_0_3_ok 10 rfl)))))
  (e_Tok2
  (e_Tok2
  (e_Lok (e_st (I := eI) (er_goto (off := 56) (tg := 198) (x_dk dn_356_0_3_ok 11 rfl) (by decide)) nx_goto))
  (e_Lok (ld_iload_n_2 (x_dk dn_356_0_3_ok 12 rfl))))
  (e_Tok2
  (e_Lok (ps_iconst_4 (x_dk dn_356_0_3_ok 13 rfl)))
  (e_Lok (e_st (I := eI) (er_icmpne (off := 9) (tg := 156) (x_dk dn_356_0_3_ok 14 rfl) (by decide)) nx_if2)))))
  (e_Tok2
  (e_Tok2
  (e_Tok2
  (e_Lok (ps_bipush_6 (x_dk dn_356_0_3_ok 15 rfl)))
  (e_Lok (e_st (I := eI) (er_istore_n (i := 3) (x_dk dn_356_0_3_ok 16 rfl) (by decide +kernel)) nx_stor)))
  (e_Tok2
  (e_Lok (e_st (I := eI) (er_goto (off := 45) (tg := 198) (x_dk dn_356_0_3_ok 17 rfl) (by decide)) nx_goto))
  (e_Lok (ld_aload_n_0 (x_dk dn_356_0_3_ok 18 rfl)))))
  (e_Tok2
  (e_Tok2
  (e_Lok (ld_iload_n_2 (x_dk dn_356_0_3_ok 19 rfl)))
  (e_Lok (ps_iconst_2 (x_dk dn_356_0_3_ok 20 rfl))))
  (e_Tok2
  (e_Lok (sm_isub (x_dk dn_356_0_3_ok 21 rfl)))
  (e_Tok2
  (e_Lok (ld_iload_n_1 (x_dk dn_356_0_3_ok 22 rfl)))
  (e_Lok (ld_aload_n_0 (x_dk dn_356_0_3_ok 23 rfl)))))))))
def te_356_99 : Nat → eE := (e_T 193 (e_T 179 (e_T 170 (e_T 165 (e_T 162 (e_L 162 (0, ei_getf eft elay 12 94 165, 0, 0)) (e_L 165 (2, e_nof, 355, 4))) (e_T 168 (e_L 168 (0, ei_stor 4 0 170, 0, 0)) (e_L 170 (0, ei_load 4 0 172, 0, 0)))) (e_T 175 (e_T 172 (e_L 172 (0, ei_if1 3 179 175, 0, 0)) (e_L 175 (0, ei_push (0, 5) 176, 0, 0))) (e_T 176 (e_L 176 (0, ei_goto 180, 0, 0)) (e_L 179 (0, ei_push (0, 0) 180, 0, 0))))) (e_T 185 (e_T 181 (e_T 180 (e_L 180 (0, ei_stor 3 0 181, 0, 0)) (e_L 181 (0, ei_load 0 2 182, 0, 0))) (e_T 182 (e_L 182 (0, ei_getf eft elay 12 66 185, 0, 0)) (e_L 185 (0, ei_push (0, 40000) 188, 0, 0)))) (e_T 189 (e_T 188 (e_L 188 (0, ei_load 0 2 189, 0, 0)) (e_L 189 (0, ei_getf eft elay 12 93 192, 0, 0))) (e_T 192 (e_L 192 (0, ei_load 1 0 193, 0, 0)) (e_L 193 (0, ei_ald elay false 194, 0, 0)))))) (e_T 204 (e_T 198 (e_T 195 (e_T 194 (e_L 194 (0, ei_bin eF_add 195, 0, 0)) (e_L 195 (0, ei_load 4 0 197, 0, 0))) (e_T 197 (e_L 197 (0, ei_ast elay false 198, 0, 0)) (e_L 198 (0, ei_load 3 0 199, 0, 0)))) (e_T 202 (e_T 199 (e_L 199 (0, ei_if1 0 217 202, 0, 0)) (e_L 202 (0, ei_load 0 2 203, 0, 0))) (e_T 203 (e_L 203 (0, ei_load 3 0 204, 0, 0)) (e_L 204 (0, ei_putf eft elay 12 88 0 207, 0, 0))))) (e_T 212 (e_T 208 (e_T 207 (e_L 207 (0, ei_load 0 2 208, 0, 0)) (e_L 208 (0, ei_load 0 2 209, 0, 0))) (e_T 209 (e_L 209 (0, ei_getf eft elay 12 91 212, 0, 0)) (e_L 212 (0, ei_load 1 0 213, 0, 0)))) (e_T 214 (e_T 213 (e_L 213 (0, ei_ald elay false 214, 0, 0)) (e_L 214 (0, ei_putf eft elay 12 89 0 217, 0, 0))) (e_T 217 (e_L 217 (0, ei_inc 1 1 220, 0, 0)) (e_T 220 (e_L 220 (0, ei_goto 2, 0, 0)) (e_L 223 (1, e_nof, 0, 0))))))))
set_option maxRecDepth 20000 in
set_option maxHeartbeats 4000000 in
theorem te_356_99_ok : ∀ pc, e_EOq eft cls elay eI n_356 pc (te_356_99 pc) :=
  (e_Tok2
  (e_Tok2
  (e_Tok2
  (e_Tok2
  (e_Tok2
  (e_Lok (lk_12_552g ho_356 (x_dk dn_356_0_3_ok 24 rfl)))
  (e_Lok (lk_12_635 ho_356 (x_dk dn_356_1_0_ok 0 rfl))))
  (e_Tok2
  (e_Lok (e_st (I := eI) (er_istore (i := 4) (x_dk dn_356_1_0_ok 1 rfl) (by decide +kernel)) nx_stor))
  (e_Lok (ld_iload_4 (x_dk dn_356_1_0_ok 2 rfl)))))
  (e_Tok2
  (e_Tok2
  (e_Lok (e_st (I := eI) (er_ifge (off := 7) (tg := 179) (x_dk dn_356_1_0_ok 3 rfl) (by decide)) nx_if1))
  (e_Lok (ps_iconst_5 (x_dk dn_356_1_0_ok 4 rfl))))
  (e_Tok2
  (e_Lok (e_st (I := eI) (er_goto (off := 4) (tg := 180) (x_dk dn_356_1_0_ok 5 rfl) (by decide)) nx_goto))
  (e_Lok (ps_iconst_0 (x_dk dn_356_1_0_ok 6 rfl))))))
  (e_Tok2
  (e_Tok2
  (e_Tok2
  (e_Lok (e_st (I := eI) (er_istore_n (i := 3) (x_dk dn_356_1_0_ok 7 rfl) (by decide +kernel)) nx_stor))
  (e_Lok (ld_aload_n_0 (x_dk dn_356_1_0_ok 8 rfl))))
  (e_Tok2
  (e_Lok (lk_12_174g ho_356 (x_dk dn_356_1_0_ok 9 rfl)))
  (e_Lok (e_st (I := eI) (er_ldcw (ix := 545) (z := 40000) (v := 40000) (x_dk dn_356_1_0_ok 10 rfl) (in_t12 (List.mem_of_getElem? (i := 40) rfl) rfl) (by decide)) (nx_push (Or.inl rfl))))))
  (e_Tok2
  (e_Tok2
  (e_Lok (ld_aload_n_0 (x_dk dn_356_1_0_ok 11 rfl)))
  (e_Lok (lk_12_219g ho_356 (x_dk dn_356_1_0_ok 12 rfl))))
  (e_Tok2
  (e_Lok (ld_iload_n_1 (x_dk dn_356_1_0_ok 13 rfl)))
  (e_Lok (sm_iaload (x_dk dn_356_1_0_ok 14 rfl)))))))
  (e_Tok2
  (e_Tok2
  (e_Tok2
  (e_Tok2
  (e_Lok (sm_iadd (x_dk dn_356_1_0_ok 15 rfl)))
  (e_Lok (ld_iload_4 (x_dk dn_356_1_0_ok 16 rfl))))
  (e_Tok2
  (e_Lok (sm_iastore (x_dk dn_356_1_0_ok 17 rfl)))
  (e_Lok (ld_iload_n_3 (x_dk dn_356_1_0_ok 18 rfl)))))
  (e_Tok2
  (e_Tok2
  (e_Lok (e_st (I := eI) (er_ifeq (off := 18) (tg := 217) (x_dk dn_356_1_0_ok 19 rfl) (by decide)) nx_if1))
  (e_Lok (ld_aload_n_0 (x_dk dn_356_1_0_ok 20 rfl))))
  (e_Tok2
  (e_Lok (ld_iload_n_3 (x_dk dn_356_1_0_ok 21 rfl)))
  (e_Lok (lk_12_530p ho_356 (x_dk dn_356_1_0_ok 22 rfl))))))
  (e_Tok2
  (e_Tok2
  (e_Tok2
  (e_Lok (ld_aload_n_0 (x_dk dn_356_1_0_ok 23 rfl)))
  (e_Lok (ld_aload_n_0 (x_dk dn_356_1_0_ok 24 rfl))))
  (e_Tok2
  (e_Lok (lk_12_213g ho_356 (x_dk dn_356_1_1_ok 0 rfl)))
  (e_Lok (ld_iload_n_1 (x_dk dn_356_1_1_ok 1 rfl)))))
  (e_Tok2
  (e_Tok2
  (e_Lok (sm_iaload (x_dk dn_356_1_1_ok 2 rfl)))
  (e_Lok (lk_12_533p ho_356 (x_dk dn_356_1_1_ok 3 rfl))))
  (e_Tok2
  (e_Lok (e_st (I := eI) (er_iinc (i := 1) (n := 1) (x_dk dn_356_1_1_ok 4 rfl) (by decide +kernel) (by decide)) nx_inc))
  (e_Tok2
  (e_Lok (e_st (I := eI) (er_goto (off := (-218)) (tg := 2) (x_dk dn_356_1_1_ok 5 rfl) (by decide)) nx_goto))
  (e_Lok (e_rt (I := eI) (k := 0) ⟨(x_dk dn_356_1_1_ok 6 rfl), rfl⟩))))))))
def te_356 : Nat → eE := (e_T 111 (e_T 52 te_356_0 te_356_33) (e_T 161 te_356_66 te_356_99))
theorem te_356_ok : ∀ pc, e_EOq eft cls elay eI n_356 pc (te_356 pc) := (e_Tok2 ((e_Tok2 (te_356_0_ok) (te_356_33_ok))) ((e_Tok2 (te_356_66_ok) (te_356_99_ok))))
end
