noncomputable section
theorem ho_105 : (xm_y n_105).cls = "RobotCellHouse$Planner" := rfl
def dn_105_0_0 : List (Nat × Instr × Nat) := [(0, .iconst 0, 1), (1, .istore_n 3, 1), (2, .iload_n 2, 1), (3, .istore 4, 2), (5, .aload_n 0, 1), (6, .getfield 27, 3), (9, .iload 4, 2), (11, .iaload, 1), (12, .bipush 100, 2), (14, .if_icmp .eq 24, 3), (17, .iload_n 3, 1), (18, .sipush 1000, 3), (21, .if_icmp .ge 17, 3), (24, .iinc 3 1, 3), (27, .aload_n 0, 1), (28, .iload 4, 2), (30, .invokevirtual 119, 3), (33, .istore 4, 2), (35, .goto (-30), 3), (38, .iload_n 2, 1), (39, .istore 4, 2), (41, .iload_n 3, 1), (42, .iconst 1, 1), (43, .isub, 1), (44, .istore 5, 2)]
set_option maxRecDepth 20000 in
theorem dn_105_0_0_ok : dn_105_0_0.all (fun q => decide (decode (xm_b n_105) q.1 = .ok (q.2.1, q.2.2))) = true := xa_g_ok (by decide +kernel)
def dn_105_0_1 : List (Nat × Instr × Nat) := [(46, .iload 5, 2), (48, .ifCond .lt 40, 3), (51, .aload_n 0, 1), (52, .getfield 31, 3), (55, .iload_n 1, 1), (56, .sipush 1000, 3), (59, .imul, 1), (60, .iload 5, 2), (62, .iadd, 1), (63, .aload_n 0, 1), (64, .getfield 27, 3), (67, .iload 4, 2), (69, .iaload, 1), (70, .iconst 1, 1), (71, .isub, 1), (72, .i2b, 1), (73, .bastore, 1), (74, .aload_n 0, 1), (75, .iload 4, 2), (77, .invokevirtual 119, 3), (80, .istore 4, 2), (82, .iinc 5 (-1), 3), (85, .goto (-39), 3), (88, .aload_n 0, 1), (89, .getfield 35, 3)]
set_option maxRecDepth 20000 in
theorem dn_105_0_1_ok : dn_105_0_1.all (fun q => decide (decode (xm_b n_105) q.1 = .ok (q.2.1, q.2.2))) = true := xa_g_ok (by decide +kernel)
def dn_105_0_2 : List (Nat × Instr × Nat) := [(92, .iload_n 1, 1), (93, .iload_n 3, 1), (94, .iastore, 1), (95, .aload_n 0, 1), (96, .getfield 38, 3), (99, .iload_n 1, 1), (100, .aload_n 0, 1), (101, .getfield 58, 3), (104, .iastore, 1), (105, .return_, 1)]
set_option maxRecDepth 20000 in
theorem dn_105_0_2_ok : dn_105_0_2.all (fun q => decide (decode (xm_b n_105) q.1 = .ok (q.2.1, q.2.2))) = true := xa_g_ok (by decide +kernel)
def te_105_0 : Nat → eE := (e_T 27 (e_T 9 (e_T 2 (e_T 0 (e_L 0 (0, ei_push (0, 0) 1, 0, 0)) (e_T 1 (e_L 1 (0, ei_stor 3 0 2, 0, 0)) (e_L 2 (0, ei_load 2 0 3, 0, 0)))) (e_T 5 (e_T 3 (e_L 3 (0, ei_stor 4 0 5, 0, 0)) (e_L 5 (0, ei_load 0 2 6, 0, 0))) (e_T 6 (e_L 6 (0, ei_getf eft elay 6 9 9, 0, 0)) (e_L 9 (0, ei_load 4 0 11, 0, 0))))) (e_T 17 (e_T 12 (e_T 11 (e_L 11 (0, ei_ald elay false 12, 0, 0)) (e_L 12 (0, ei_push (0, 100) 14, 0, 0))) (e_T 14 (e_L 14 (0, ei_if2 0 38 17, 0, 0)) (e_L 17 (0, ei_load 3 0 18, 0, 0)))) (e_T 21 (e_T 18 (e_L 18 (0, ei_push (0, 1000) 21, 0, 0)) (e_L 21 (0, ei_if2 3 38 24, 0, 0))) (e_T 24 (e_L 24 (0, ei_inc 3 1 27, 0, 0)) (e_L 27 (0, ei_load 0 2 28, 0, 0)))))) (e_T 41 (e_T 33 (e_T 28 (e_L 28 (0, ei_load 4 0 30, 0, 0)) (e_T 30 (e_L 30 (2, e_nof, 106, 2)) (e_L 33 (0, ei_stor 4 0 35, 0, 0)))) (e_T 38 (e_T 35 (e_L 35 (0, ei_goto 5, 0, 0)) (e_L 38 (0, ei_load 2 0 39, 0, 0))) (e_T 39 (e_L 39 (0, ei_stor 4 0 41, 0, 0)) (e_L 41 (0, ei_load 3 0 42, 0, 0))))) (e_T 46 (e_T 43 (e_T 42 (e_L 42 (0, ei_push (0, 1) 43, 0, 0)) (e_L 43 (0, ei_bin eF_sub 44, 0, 0))) (e_T 44 (e_L 44 (0, ei_stor 5 0 46, 0, 0)) (e_L 46 (0, ei_load 5 0 48, 0, 0)))) (e_T 51 (e_T 48 (e_L 48 (0, ei_if1 2 88 51, 0, 0)) (e_L 51 (0, ei_load 0 2 52, 0, 0))) (e_T 52 (e_L 52 (0, ei_getf eft elay 6 10 55, 0, 0)) (e_L 55 (0, ei_load 1 0 56, 0, 0)))))))
set_option maxRecDepth 20000 in
set_option maxHeartbeats 4000000 in
theorem te_105_0_ok : ∀ pc, e_EOq eft cls elay eI n_105 pc (te_105_0 pc) :=
  (e_Tok2
  (e_Tok2
  (e_Tok2
  (e_Tok2
  (e_Lok (ps_iconst_0 (x_dk dn_105_0_0_ok 0 rfl)))
  (e_Tok2
  (e_Lok (e_st (I := eI) (er_istore_n (i := 3) (x_dk dn_105_0_0_ok 1 rfl) (by decide +kernel)) nx_stor))
  (e_Lok (ld_iload_n_2 (x_dk dn_105_0_0_ok 2 rfl)))))
  (e_Tok2
  (e_Tok2
  (e_Lok (e_st (I := eI) (er_istore (i := 4) (x_dk dn_105_0_0_ok 3 rfl) (by decide +kernel)) nx_stor))
  (e_Lok (ld_aload_n_0 (x_dk dn_105_0_0_ok 4 rfl))))
  (e_Tok2
  (e_Lok (lk_6_27g ho_105 (x_dk dn_105_0_0_ok 5 rfl)))
  (e_Lok (ld_iload_4 (x_dk dn_105_0_0_ok 6 rfl))))))
  (e_Tok2
  (e_Tok2
  (e_Tok2
  (e_Lok (sm_iaload (x_dk dn_105_0_0_ok 7 rfl)))
  (e_Lok (ps_bipush_100 (x_dk dn_105_0_0_ok 8 rfl))))
  (e_Tok2
  (e_Lok (e_st (I := eI) (er_icmpeq (off := 24) (tg := 38) (x_dk dn_105_0_0_ok 9 rfl) (by decide)) nx_if2))
  (e_Lok (ld_iload_n_3 (x_dk dn_105_0_0_ok 10 rfl)))))
  (e_Tok2
  (e_Tok2
  (e_Lok (ps_sipush_1000 (x_dk dn_105_0_0_ok 11 rfl)))
  (e_Lok (e_st (I := eI) (er_icmpge (off := 17) (tg := 38) (x_dk dn_105_0_0_ok 12 rfl) (by decide)) nx_if2)))
  (e_Tok2
  (e_Lok (e_st (I := eI) (er_iinc (i := 3) (n := 1) (x_dk dn_105_0_0_ok 13 rfl) (by decide +kernel) (by decide)) nx_inc))
  (e_Lok (ld_aload_n_0 (x_dk dn_105_0_0_ok 14 rfl)))))))
  (e_Tok2
  (e_Tok2
  (e_Tok2
  (e_Lok (ld_iload_4 (x_dk dn_105_0_0_ok 15 rfl)))
  (e_Tok2
  (e_Lok (lk_6_119 ho_105 (x_dk dn_105_0_0_ok 16 rfl)))
  (e_Lok (e_st (I := eI) (er_istore (i := 4) (x_dk dn_105_0_0_ok 17 rfl) (by decide +kernel)) nx_stor))))
  (e_Tok2
  (e_Tok2
  (e_Lok (e_st (I := eI) (er_goto (off := (-30)) (tg := 5) (x_dk dn_105_0_0_ok 18 rfl) (by decide)) nx_goto))
  (e_Lok (ld_iload_n_2 (x_dk dn_105_0_0_ok 19 rfl))))
  (e_Tok2
  (e_Lok (e_st (I := eI) (er_istore (i := 4) (x_dk dn_105_0_0_ok 20 rfl) (by decide +kernel)) nx_stor))
  (e_Lok (ld_iload_n_3 (x_dk dn_105_0_0_ok 21 rfl))))))
  (e_Tok2
  (e_Tok2
  (e_Tok2
  (e_Lok (ps_iconst_1 (x_dk dn_105_0_0_ok 22 rfl)))
  (e_Lok (sm_isub (x_dk dn_105_0_0_ok 23 rfl))))
  (e_Tok2
  (e_Lok (e_st (I := eI) (er_istore (i := 5) (x_dk dn_105_0_0_ok 24 rfl) (by decide +kernel)) nx_stor))
  (e_Lok (ld_iload_5 (x_dk dn_105_0_1_ok 0 rfl)))))
  (e_Tok2
  (e_Tok2
  (e_Lok (e_st (I := eI) (er_iflt (off := 40) (tg := 88) (x_dk dn_105_0_1_ok 1 rfl) (by decide)) nx_if1))
  (e_Lok (ld_aload_n_0 (x_dk dn_105_0_1_ok 2 rfl))))
  (e_Tok2
  (e_Lok (lk_6_31g ho_105 (x_dk dn_105_0_1_ok 3 rfl)))
  (e_Lok (ld_iload_n_1 (x_dk dn_105_0_1_ok 4 rfl))))))))
def te_105_30 : Nat → eE := (e_T 77 (e_T 67 (e_T 60 (e_T 56 (e_L 56 (0, ei_push (0, 1000) 59, 0, 0)) (e_T 59 (e_L 59 (0, ei_bin eF_mul 60, 0, 0)) (e_L 60 (0, ei_load 5 0 62, 0, 0)))) (e_T 63 (e_T 62 (e_L 62 (0, ei_bin eF_add 63, 0, 0)) (e_L 63 (0, ei_load 0 2 64, 0, 0))) (e_T 64 (e_L 64 (0, ei_getf eft elay 6 9 67, 0, 0)) (e_L 67 (0, ei_load 4 0 69, 0, 0))))) (e_T 72 (e_T 70 (e_T 69 (e_L 69 (0, ei_ald elay false 70, 0, 0)) (e_L 70 (0, ei_push (0, 1) 71, 0, 0))) (e_T 71 (e_L 71 (0, ei_bin eF_sub 72, 0, 0)) (e_L 72 (0, ei_un (fun x => (0, x.bmod 256)) 73, 0, 0)))) (e_T 74 (e_T 73 (e_L 73 (0, ei_ast elay true 74, 0, 0)) (e_L 74 (0, ei_load 0 2 75, 0, 0))) (e_T 75 (e_L 75 (0, ei_load 4 0 77, 0, 0)) (e_L 77 (2, e_nof, 106, 2)))))) (e_T 93 (e_T 85 (e_T 80 (e_L 80 (0, ei_stor 4 0 82, 0, 0)) (e_T 82 (e_L 82 (0, ei_inc 5 (-1) 85, 0, 0)) (e_L 85 (0, ei_goto 46, 0, 0)))) (e_T 89 (e_T 88 (e_L 88 (0, ei_load 0 2 89, 0, 0)) (e_L 89 (0, ei_getf eft elay 6 11 92, 0, 0))) (e_T 92 (e_L 92 (0, ei_load 1 0 93, 0, 0)) (e_L 93 (0, ei_load 3 0 94, 0, 0))))) (e_T 99 (e_T 95 (e_T 94 (e_L 94 (0, ei_ast elay false 95, 0, 0)) (e_L 95 (0, ei_load 0 2 96, 0, 0))) (e_T 96 (e_L 96 (0, ei_getf eft elay 6 12 99, 0, 0)) (e_L 99 (0, ei_load 1 0 100, 0, 0)))) (e_T 101 (e_T 100 (e_L 100 (0, ei_load 0 2 101, 0, 0)) (e_L 101 (0, ei_getf eft elay 6 1 104, 0, 0))) (e_T 104 (e_L 104 (0, ei_ast elay false 105, 0, 0)) (e_L 105 (1, e_nof, 0, 0)))))))
set_option maxRecDepth 20000 in
set_option maxHeartbeats 4000000 in
theorem te_105_30_ok : ∀ pc, e_EOq eft cls elay eI n_105 pc (te_105_30 pc) :=
  (e_Tok2
  (e_Tok2
  (e_Tok2
  (e_Tok2
  (e_Lok (ps_sipush_1000 (x_dk dn_105_0_1_ok 5 rfl)))
  (e_Tok2
  (e_Lok (sm_imul (x_dk dn_105_0_1_ok 6 rfl)))
  (e_Lok (ld_iload_5 (x_dk dn_105_0_1_ok 7 rfl)))))
  (e_Tok2
  (e_Tok2
  (e_Lok (sm_iadd (x_dk dn_105_0_1_ok 8 rfl)))
  (e_Lok (ld_aload_n_0 (x_dk dn_105_0_1_ok 9 rfl))))
  (e_Tok2
  (e_Lok (lk_6_27g ho_105 (x_dk dn_105_0_1_ok 10 rfl)))
  (e_Lok (ld_iload_4 (x_dk dn_105_0_1_ok 11 rfl))))))
  (e_Tok2
  (e_Tok2
  (e_Tok2
  (e_Lok (sm_iaload (x_dk dn_105_0_1_ok 12 rfl)))
  (e_Lok (ps_iconst_1 (x_dk dn_105_0_1_ok 13 rfl))))
  (e_Tok2
  (e_Lok (sm_isub (x_dk dn_105_0_1_ok 14 rfl)))
  (e_Lok (e_st (I := eI) (er_i2b (x_dk dn_105_0_1_ok 15 rfl)) (nx_un (fun _ => rfl))))))
  (e_Tok2
  (e_Tok2
  (e_Lok (e_st (I := eI) (er_bastore (x_dk dn_105_0_1_ok 16 rfl)) nx_ast))
  (e_Lok (ld_aload_n_0 (x_dk dn_105_0_1_ok 17 rfl))))
  (e_Tok2
  (e_Lok (ld_iload_4 (x_dk dn_105_0_1_ok 18 rfl)))
  (e_Lok (lk_6_119 ho_105 (x_dk dn_105_0_1_ok 19 rfl)))))))
  (e_Tok2
  (e_Tok2
  (e_Tok2
  (e_Lok (e_st (I := eI) (er_istore (i := 4) (x_dk dn_105_0_1_ok 20 rfl) (by decide +kernel)) nx_stor))
  (e_Tok2
  (e_Lok (e_st (I := eI) (er_iinc (i := 5) (n := (-1)) (x_dk dn_105_0_1_ok 21 rfl) (by decide +kernel) (by decide)) nx_inc))
  (e_Lok (e_st (I := eI) (er_goto (off := (-39)) (tg := 46) (x_dk dn_105_0_1_ok 22 rfl) (by decide)) nx_goto))))
  (e_Tok2
  (e_Tok2
  (e_Lok (ld_aload_n_0 (x_dk dn_105_0_1_ok 23 rfl)))
  (e_Lok (lk_6_35g ho_105 (x_dk dn_105_0_1_ok 24 rfl))))
  (e_Tok2
  (e_Lok (ld_iload_n_1 (x_dk dn_105_0_2_ok 0 rfl)))
  (e_Lok (ld_iload_n_3 (x_dk dn_105_0_2_ok 1 rfl))))))
  (e_Tok2
  (e_Tok2
  (e_Tok2
  (e_Lok (sm_iastore (x_dk dn_105_0_2_ok 2 rfl)))
  (e_Lok (ld_aload_n_0 (x_dk dn_105_0_2_ok 3 rfl))))
  (e_Tok2
  (e_Lok (lk_6_38g ho_105 (x_dk dn_105_0_2_ok 4 rfl)))
  (e_Lok (ld_iload_n_1 (x_dk dn_105_0_2_ok 5 rfl)))))
  (e_Tok2
  (e_Tok2
  (e_Lok (ld_aload_n_0 (x_dk dn_105_0_2_ok 6 rfl)))
  (e_Lok (lk_6_58g ho_105 (x_dk dn_105_0_2_ok 7 rfl))))
  (e_Tok2
  (e_Lok (sm_iastore (x_dk dn_105_0_2_ok 8 rfl)))
  (e_Lok (e_rt (I := eI) (k := 0) ⟨(x_dk dn_105_0_2_ok 9 rfl), rfl⟩)))))))
def te_105 : Nat → eE := (e_T 55 te_105_0 te_105_30)
theorem te_105_ok : ∀ pc, e_EOq eft cls elay eI n_105 pc (te_105 pc) := (e_Tok2 (te_105_0_ok) (te_105_30_ok))
theorem ho_106 : (xm_y n_106).cls = "RobotCellHouse$Planner" := rfl
def dn_106_0_0 : List (Nat × Instr × Nat) := [(0, .aload_n 0, 1), (1, .getfield 27, 3), (4, .iload_n 1, 1), (5, .iaload, 1), (6, .iconst 1, 1), (7, .isub, 1), (8, .istore_n 2, 1), (9, .iload_n 2, 1), (10, .iconst 0, 1), (11, .bipush 11, 2), (13, .invokestatic 41, 3), (16, .ifCond .ne 5, 3), (19, .iload_n 1, 1), (20, .ireturn, 1), (21, .iload_n 2, 1), (22, .iconst 2, 1), (23, .irem, 1), (24, .ifCond .ne 16, 3), (27, .iload_n 1, 1), (28, .aload_n 0, 1), (29, .getfield 21, 3), (32, .iload_n 2, 1), (33, .iconst 2, 1), (34, .idiv, 1), (35, .iaload, 1)]
set_option maxRecDepth 20000 in
theorem dn_106_0_0_ok : dn_106_0_0.all (fun q => decide (decode (xm_b n_106) q.1 = .ok (q.2.1, q.2.2))) = true := xa_g_ok (by decide +kernel)
def dn_106_0_1 : List (Nat × Instr × Nat) := [(36, .isub, 1), (37, .goto 13, 3), (40, .iload_n 1, 1), (41, .aload_n 0, 1), (42, .getfield 21, 3), (45, .iload_n 2, 1), (46, .iconst 2, 1), (47, .idiv, 1), (48, .iaload, 1), (49, .iadd, 1), (50, .ireturn, 1)]
set_option maxRecDepth 20000 in
theorem dn_106_0_1_ok : dn_106_0_1.all (fun q => decide (decode (xm_b n_106) q.1 = .ok (q.2.1, q.2.2))) = true := xa_g_ok (by decide +kernel)
def te_106_0 : Nat → eE := (e_T 24 (e_T 10 (e_T 5 (e_T 1 (e_T 0 (e_L 0 (0, ei_load 0 2 1, 0, 0)) (e_L 1 (0, ei_getf eft elay 6 9 4, 0, 0))) (e_T 4 (e_L 4 (0, ei_load 1 0 5, 0, 0)) (e_L 5 (0, ei_ald elay false 6, 0, 0)))) (e_T 7 (e_T 6 (e_L 6 (0, ei_push (0, 1) 7, 0, 0)) (e_L 7 (0, ei_bin eF_sub 8, 0, 0))) (e_T 8 (e_L 8 (0, ei_stor 2 0 9, 0, 0)) (e_T 9 (e_L 9 (0, ei_load 2 0 10, 0, 0)) (e_L 10 (0, ei_push (0, 0) 11, 0, 0)))))) (e_T 19 (e_T 13 (e_T 11 (e_L 11 (0, ei_push (0, 11) 13, 0, 0)) (e_L 13 (2, e_nof, 242, 3))) (e_T 16 (e_L 16 (0, ei_if1 1 21 19, 0, 0)) (e_L 19 (0, ei_load 1 0 20, 0, 0)))) (e_T 21 (e_T 20 (e_L 20 (1, e_nof, 1, 0)) (e_L 21 (0, ei_load 2 0 22, 0, 0))) (e_T 22 (e_L 22 (0, ei_push (0, 2) 23, 0, 0)) (e_T 23 (e_L 23 (0, ei_bin eF_rem 24, 0, 0)) (e_L 24 (0, ei_if1 1 40 27, 0, 0))))))) (e_T 37 (e_T 32 (e_T 28 (e_T 27 (e_L 27 (0, ei_load 1 0 28, 0, 0)) (e_L 28 (0, ei_load 0 2 29, 0, 0))) (e_T 29 (e_L 29 (0, ei_getf eft elay 6 7 32, 0, 0)) (e_L 32 (0, ei_load 2 0 33, 0, 0)))) (e_T 34 (e_T 33 (e_L 33 (0, ei_push (0, 2) 34, 0, 0)) (e_L 34 (0, ei_bin eF_div 35, 0, 0))) (e_T 35 (e_L 35 (0, ei_ald elay false 36, 0, 0)) (e_T 36 (e_L 36 (0, ei_bin eF_sub 37, 0, 0)) (e_L 37 (0, ei_goto 50, 0, 0)))))) (e_T 45 (e_T 41 (e_T 40 (e_L 40 (0, ei_load 1 0 41, 0, 0)) (e_L 41 (0, ei_load 0 2 42, 0, 0))) (e_T 42 (e_L 42 (0, ei_getf eft elay 6 7 45, 0, 0)) (e_L 45 (0, ei_load 2 0 46, 0, 0)))) (e_T 47 (e_T 46 (e_L 46 (0, ei_push (0, 2) 47, 0, 0)) (e_L 47 (0, ei_bin eF_div 48, 0, 0))) (e_T 48 (e_L 48 (0, ei_ald elay false 49, 0, 0)) (e_T 49 (e_L 49 (0, ei_bin eF_add 50, 0, 0)) (e_L 50 (1, e_nof, 1, 0))))))))
set_option maxRecDepth 20000 in
set_option maxHeartbeats 4000000 in
theorem te_106_0_ok : ∀ pc, e_EOq eft cls elay eI n_106 pc (te_106_0 pc) :=
  (e_Tok2
  (e_Tok2
  (e_Tok2
  (e_Tok2
  (e_Tok2
  (e_Lok (ld_aload_n_0 (x_dk dn_106_0_0_ok 0 rfl)))
  (e_Lok (lk_6_27g ho_106 (x_dk dn_106_0_0_ok 1 rfl))))
  (e_Tok2
  (e_Lok (ld_iload_n_1 (x_dk dn_106_0_0_ok 2 rfl)))
  (e_Lok (sm_iaload (x_dk dn_106_0_0_ok 3 rfl)))))
  (e_Tok2
  (e_Tok2
  (e_Lok (ps_iconst_1 (x_dk dn_106_0_0_ok 4 rfl)))
  (e_Lok (sm_isub (x_dk dn_106_0_0_ok 5 rfl))))
  (e_Tok2
  (e_Lok (e_st (I := eI) (er_istore_n (i := 2) (x_dk dn_106_0_0_ok 6 rfl) (by decide +kernel)) nx_stor))
  (e_Tok2
  (e_Lok (ld_iload_n_2 (x_dk dn_106_0_0_ok 7 rfl)))
  (e_Lok (ps_iconst_0 (x_dk dn_106_0_0_ok 8 rfl)))))))
  (e_Tok2
  (e_Tok2
  (e_Tok2
  (e_Lok (ps_bipush_11 (x_dk dn_106_0_0_ok 9 rfl)))
  (e_Lok (lk_6_41 ho_106 (x_dk dn_106_0_0_ok 10 rfl))))
  (e_Tok2
  (e_Lok (e_st (I := eI) (er_ifne (off := 5) (tg := 21) (x_dk dn_106_0_0_ok 11 rfl) (by decide)) nx_if1))
  (e_Lok (ld_iload_n_1 (x_dk dn_106_0_0_ok 12 rfl)))))
  (e_Tok2
  (e_Tok2
  (e_Lok (e_rt (I := eI) (k := 1) ⟨(x_dk dn_106_0_0_ok 13 rfl), rfl⟩))
  (e_Lok (ld_iload_n_2 (x_dk dn_106_0_0_ok 14 rfl))))
  (e_Tok2
  (e_Lok (ps_iconst_2 (x_dk dn_106_0_0_ok 15 rfl)))
  (e_Tok2
  (e_Lok (e_st (I := eI) (er_irem (x_dk dn_106_0_0_ok 16 rfl)) nx_bin))
  (e_Lok (e_st (I := eI) (er_ifne (off := 16) (tg := 40) (x_dk dn_106_0_0_ok 17 rfl) (by decide)) nx_if1)))))))
  (e_Tok2
  (e_Tok2
  (e_Tok2
  (e_Tok2
  (e_Lok (ld_iload_n_1 (x_dk dn_106_0_0_ok 18 rfl)))
  (e_Lok (ld_aload_n_0 (x_dk dn_106_0_0_ok 19 rfl))))
  (e_Tok2
  (e_Lok (lk_6_21g ho_106 (x_dk dn_106_0_0_ok 20 rfl)))
  (e_Lok (ld_iload_n_2 (x_dk dn_106_0_0_ok 21 rfl)))))
  (e_Tok2
  (e_Tok2
  (e_Lok (ps_iconst_2 (x_dk dn_106_0_0_ok 22 rfl)))
  (e_Lok (e_st (I := eI) (er_idiv (x_dk dn_106_0_0_ok 23 rfl)) nx_bin)))
  (e_Tok2
  (e_Lok (sm_iaload (x_dk dn_106_0_0_ok 24 rfl)))
  (e_Tok2
  (e_Lok (sm_isub (x_dk dn_106_0_1_ok 0 rfl)))
  (e_Lok (e_st (I := eI) (er_goto (off := 13) (tg := 50) (x_dk dn_106_0_1_ok 1 rfl) (by decide)) nx_goto))))))
  (e_Tok2
  (e_Tok2
  (e_Tok2
  (e_Lok (ld_iload_n_1 (x_dk dn_106_0_1_ok 2 rfl)))
  (e_Lok (ld_aload_n_0 (x_dk dn_106_0_1_ok 3 rfl))))
  (e_Tok2
  (e_Lok (lk_6_21g ho_106 (x_dk dn_106_0_1_ok 4 rfl)))
  (e_Lok (ld_iload_n_2 (x_dk dn_106_0_1_ok 5 rfl)))))
  (e_Tok2
  (e_Tok2
  (e_Lok (ps_iconst_2 (x_dk dn_106_0_1_ok 6 rfl)))
  (e_Lok (e_st (I := eI) (er_idiv (x_dk dn_106_0_1_ok 7 rfl)) nx_bin)))
  (e_Tok2
  (e_Lok (sm_iaload (x_dk dn_106_0_1_ok 8 rfl)))
  (e_Tok2
  (e_Lok (sm_iadd (x_dk dn_106_0_1_ok 9 rfl)))
  (e_Lok (e_rt (I := eI) (k := 1) ⟨(x_dk dn_106_0_1_ok 10 rfl), rfl⟩))))))))
def te_106 : Nat → eE := te_106_0
theorem te_106_ok : ∀ pc, e_EOq eft cls elay eI n_106 pc (te_106 pc) := te_106_0_ok
theorem ho_107 : (xm_y n_107).cls = "RobotCellHouse$Planner" := rfl
def dn_107_0_0 : List (Nat × Instr × Nat) := [(0, .aload_n 0, 1), (1, .aload_n 1, 1), (2, .getfield 49, 3), (5, .invokevirtual 45, 3), (8, .istore_n 2, 1), (9, .iload_n 2, 1), (10, .ifCond .ne 5, 3), (13, .iconst 0, 1), (14, .ireturn, 1), (15, .iconst 1, 1), (16, .istore_n 3, 1), (17, .iconst 1, 1), (18, .istore 4, 2), (20, .iload 4, 2), (22, .iload_n 2, 1), (23, .if_icmp .ge 37, 3), (26, .aload_n 0, 1), (27, .aload_n 1, 1), (28, .getfield 49, 3), (31, .iload 4, 2), (33, .invokevirtual 122, 3), (36, .aload_n 0, 1), (37, .aload_n 1, 1), (38, .getfield 49, 3), (41, .iload 4, 2)]
set_option maxRecDepth 20000 in
theorem dn_107_0_0_ok : dn_107_0_0.all (fun q => decide (decode (xm_b n_107) q.1 = .ok (q.2.1, q.2.2))) = true := xa_g_ok (by decide +kernel)
def dn_107_0_1 : List (Nat × Instr × Nat) := [(43, .iconst 1, 1), (44, .isub, 1), (45, .invokevirtual 122, 3), (48, .if_icmp .eq 6, 3), (51, .iinc 3 1, 3), (54, .iinc 4 1, 3), (57, .goto (-37), 3), (60, .aload_n 1, 1), (61, .iconst 0, 1), (62, .putfield 125, 3), (65, .aload_n 0, 1), (66, .aload_n 1, 1), (67, .invokevirtual 128, 3), (70, .pop, 1), (71, .iload_n 3, 1), (72, .ireturn, 1)]
set_option maxRecDepth 20000 in
theorem dn_107_0_1_ok : dn_107_0_1.all (fun q => decide (decode (xm_b n_107) q.1 = .ok (q.2.1, q.2.2))) = true := xa_g_ok (by decide +kernel)
def te_107_0 : Nat → eE := (e_T 15 (e_T 8 (e_T 1 (e_T 0 (e_L 0 (0, ei_load 0 2 1, 0, 0)) (e_L 1 (0, ei_load 1 2 2, 0, 0))) (e_T 2 (e_L 2 (0, ei_getf eft elay 0 17 5, 0, 0)) (e_T 5 (e_L 5 (2, e_nof, 95, 2)) (e_L 8 (0, ei_stor 2 0 9, 0, 0))))) (e_T 10 (e_T 9 (e_L 9 (0, ei_load 2 0 10, 0, 0)) (e_L 10 (0, ei_if1 1 15 13, 0, 0))) (e_T 13 (e_L 13 (0, ei_push (0, 0) 14, 0, 0)) (e_T 14 (e_L 14 (1, e_nof, 1, 0)) (e_L 15 (0, ei_push (0, 1) 16, 0, 0)))))) (e_T 22 (e_T 17 (e_T 16 (e_L 16 (0, ei_stor 3 0 17, 0, 0)) (e_L 17 (0, ei_push (0, 1) 18, 0, 0))) (e_T 18 (e_L 18 (0, ei_stor 4 0 20, 0, 0)) (e_T 20 (e_L 20 (0, ei_load 4 0 22, 0, 0)) (e_L 22 (0, ei_load 2 0 23, 0, 0))))) (e_T 26 (e_T 23 (e_L 23 (0, ei_if2 3 60 26, 0, 0)) (e_L 26 (0, ei_load 0 2 27, 0, 0))) (e_T 27 (e_L 27 (0, ei_load 1 2 28, 0, 0)) (e_T 28 (e_L 28 (0, ei_getf eft elay 0 17 31, 0, 0)) (e_L 31 (0, ei_load 4 0 33, 0, 0)))))))
set_option maxRecDepth 20000 in
set_option maxHeartbeats 4000000 in
theorem te_107_0_ok : ∀ pc, e_EOq eft cls elay eI n_107 pc (te_107_0 pc) :=
  (e_Tok2
  (e_Tok2
  (e_Tok2
  (e_Tok2
  (e_Lok (ld_aload_n_0 (x_dk dn_107_0_0_ok 0 rfl)))
  (e_Lok (ld_aload_n_1 (x_dk dn_107_0_0_ok 1 rfl))))
  (e_Tok2
  (e_Lok (lk_6_49g ho_107 (x_dk dn_107_0_0_ok 2 rfl)))
  (e_Tok2
  (e_Lok (lk_6_45 ho_107 (x_dk dn_107_0_0_ok 3 rfl)))
  (e_Lok (e_st (I := eI) (er_istore_n (i := 2) (x_dk dn_107_0_0_ok 4 rfl) (by decide +kernel)) nx_stor)))))
  (e_Tok2
  (e_Tok2
  (e_Lok (ld_iload_n_2 (x_dk dn_107_0_0_ok 5 rfl)))
  (e_Lok (e_st (I := eI) (er_ifne (off := 5) (tg := 15) (x_dk dn_107_0_0_ok 6 rfl) (by decide)) nx_if1)))
  (e_Tok2
  (e_Lok (ps_iconst_0 (x_dk dn_107_0_0_ok 7 rfl)))
  (e_Tok2
  (e_Lok (e_rt (I := eI) (k := 1) ⟨(x_dk dn_107_0_0_ok 8 rfl), rfl⟩))
  (e_Lok (ps_iconst_1 (x_dk dn_107_0_0_ok 9 rfl)))))))
  (e_Tok2
  (e_Tok2
  (e_Tok2
  (e_Lok (e_st (I := eI) (er_istore_n (i := 3) (x_dk dn_107_0_0_ok 10 rfl) (by decide +kernel)) nx_stor))
  (e_Lok (ps_iconst_1 (x_dk dn_107_0_0_ok 11 rfl))))
  (e_Tok2
  (e_Lok (e_st (I := eI) (er_istore (i := 4) (x_dk dn_107_0_0_ok 12 rfl) (by decide +kernel)) nx_stor))
  (e_Tok2
  (e_Lok (ld_iload_4 (x_dk dn_107_0_0_ok 13 rfl)))
  (e_Lok (ld_iload_n_2 (x_dk dn_107_0_0_ok 14 rfl))))))
  (e_Tok2
  (e_Tok2
  (e_Lok (e_st (I := eI) (er_icmpge (off := 37) (tg := 60) (x_dk dn_107_0_0_ok 15 rfl) (by decide)) nx_if2))
  (e_Lok (ld_aload_n_0 (x_dk dn_107_0_0_ok 16 rfl))))
  (e_Tok2
  (e_Lok (ld_aload_n_1 (x_dk dn_107_0_0_ok 17 rfl)))
  (e_Tok2
  (e_Lok (lk_6_49g ho_107 (x_dk dn_107_0_0_ok 18 rfl)))
  (e_Lok (ld_iload_4 (x_dk dn_107_0_0_ok 19 rfl))))))))
def te_107_20 : Nat → eE := (e_T 51 (e_T 41 (e_T 36 (e_T 33 (e_L 33 (2, e_nof, 96, 3)) (e_L 36 (0, ei_load 0 2 37, 0, 0))) (e_T 37 (e_L 37 (0, ei_load 1 2 38, 0, 0)) (e_T 38 (e_L 38 (0, ei_getf eft elay 0 17 41, 0, 0)) (e_L 41 (0, ei_load 4 0 43, 0, 0))))) (e_T 44 (e_T 43 (e_L 43 (0, ei_push (0, 1) 44, 0, 0)) (e_L 44 (0, ei_bin eF_sub 45, 0, 0))) (e_T 45 (e_L 45 (2, e_nof, 96, 3)) (e_T 48 (e_L 48 (0, ei_if2 0 54 51, 0, 0)) (e_L 51 (0, ei_inc 3 1 54, 0, 0)))))) (e_T 62 (e_T 57 (e_T 54 (e_L 54 (0, ei_inc 4 1 57, 0, 0)) (e_L 57 (0, ei_goto 20, 0, 0))) (e_T 60 (e_L 60 (0, ei_load 1 2 61, 0, 0)) (e_T 61 (e_L 61 (0, ei_push (0, 0) 62, 0, 0)) (e_L 62 (0, ei_putf eft elay 0 18 0 65, 0, 0))))) (e_T 67 (e_T 65 (e_L 65 (0, ei_load 0 2 66, 0, 0)) (e_T 66 (e_L 66 (0, ei_load 1 2 67, 0, 0)) (e_L 67 (2, e_nof, 108, 2)))) (e_T 70 (e_L 70 (0, ei_stk ef_pop 71, 0, 0)) (e_T 71 (e_L 71 (0, ei_load 3 0 72, 0, 0)) (e_L 72 (1, e_nof, 1, 0)))))))
set_option maxRecDepth 20000 in
set_option maxHeartbeats 4000000 in
theorem te_107_20_ok : ∀ pc, e_EOq eft cls elay eI n_107 pc (te_107_20 pc) :=
  (e_Tok2
  (e_Tok2
  (e_Tok2
  (e_Tok2
  (e_Lok (lk_6_122 ho_107 (x_dk dn_107_0_0_ok 20 rfl)))
  (e_Lok (ld_aload_n_0 (x_dk dn_107_0_0_ok 21 rfl))))
  (e_Tok2
  (e_Lok (ld_aload_n_1 (x_dk dn_107_0_0_ok 22 rfl)))
  (e_Tok2
  (e_Lok (lk_6_49g ho_107 (x_dk dn_107_0_0_ok 23 rfl)))
  (e_Lok (ld_iload_4 (x_dk dn_107_0_0_ok 24 rfl))))))
  (e_Tok2
  (e_Tok2
  (e_Lok (ps_iconst_1 (x_dk dn_107_0_1_ok 0 rfl)))
  (e_Lok (sm_isub (x_dk dn_107_0_1_ok 1 rfl))))
  (e_Tok2
  (e_Lok (lk_6_122 ho_107 (x_dk dn_107_0_1_ok 2 rfl)))
  (e_Tok2
  (e_Lok (e_st (I := eI) (er_icmpeq (off := 6) (tg := 54) (x_dk dn_107_0_1_ok 3 rfl) (by decide)) nx_if2))
  (e_Lok (e_st (I := eI) (er_iinc (i := 3) (n := 1) (x_dk dn_107_0_1_ok 4 rfl) (by decide +kernel) (by decide)) nx_inc))))))
  (e_Tok2
  (e_Tok2
  (e_Tok2
  (e_Lok (e_st (I := eI) (er_iinc (i := 4) (n := 1) (x_dk dn_107_0_1_ok 5 rfl) (by decide +kernel) (by decide)) nx_inc))
  (e_Lok (e_st (I := eI) (er_goto (off := (-37)) (tg := 20) (x_dk dn_107_0_1_ok 6 rfl) (by decide)) nx_goto)))
  (e_Tok2
  (e_Lok (ld_aload_n_1 (x_dk dn_107_0_1_ok 7 rfl)))
  (e_Tok2
  (e_Lok (ps_iconst_0 (x_dk dn_107_0_1_ok 8 rfl)))
  (e_Lok (lk_6_125p ho_107 (x_dk dn_107_0_1_ok 9 rfl))))))
  (e_Tok2
  (e_Tok2
  (e_Lok (ld_aload_n_0 (x_dk dn_107_0_1_ok 10 rfl)))
  (e_Tok2
  (e_Lok (ld_aload_n_1 (x_dk dn_107_0_1_ok 11 rfl)))
  (e_Lok (lk_6_128 ho_107 (x_dk dn_107_0_1_ok 12 rfl)))))
  (e_Tok2
  (e_Lok (e_st (I := eI) (er_pop (x_dk dn_107_0_1_ok 13 rfl)) (nx_stk bf_pop)))
  (e_Tok2
  (e_Lok (ld_iload_n_3 (x_dk dn_107_0_1_ok 14 rfl)))
  (e_Lok (e_rt (I := eI) (k := 1) ⟨(x_dk dn_107_0_1_ok 15 rfl), rfl⟩)))))))
def te_107 : Nat → eE := (e_T 31 te_107_0 te_107_20)
theorem te_107_ok : ∀ pc, e_EOq eft cls elay eI n_107 pc (te_107 pc) := (e_Tok2 (te_107_0_ok) (te_107_20_ok))
theorem ho_108 : (xm_y n_108).cls = "RobotCellHouse$Planner" := rfl
def dn_108_0_0 : List (Nat × Instr × Nat) := [(0, .aload_n 1, 1), (1, .getfield 125, 3), (4, .ifCond .lt 18, 3), (7, .aload_n 1, 1), (8, .getfield 125, 3), (11, .aload_n 0, 1), (12, .aload_n 1, 1), (13, .getfield 49, 3), (16, .invokevirtual 45, 3), (19, .if_icmp .lt 5, 3), (22, .iconst 0, 1), (23, .ireturn, 1), (24, .aload_n 0, 1), (25, .aload_n 1, 1), (26, .getfield 49, 3), (29, .aload_n 1, 1), (30, .getfield 125, 3), (33, .invokevirtual 122, 3), (36, .istore_n 2, 1), (37, .iconst 0, 1), (38, .istore_n 3, 1), (39, .aload_n 0, 1), (40, .aload_n 1, 1), (41, .getfield 49, 3), (44, .aload_n 1, 1)]
set_option maxRecDepth 20000 in
theorem dn_108_0_0_ok : dn_108_0_0.all (fun q => decide (decode (xm_b n_108) q.1 = .ok (q.2.1, q.2.2))) = true := xa_g_ok (by decide +kernel)
def dn_108_0_1 : List (Nat × Instr × Nat) := [(45, .getfield 125, 3), (48, .invokevirtual 122, 3), (51, .iload_n 2, 1), (52, .if_icmp .ne 26, 3), (55, .iload_n 3, 1), (56, .sipush 1000, 3), (59, .if_icmp .ge 19, 3), (62, .iinc 3 1, 3), (65, .aload_n 1, 1), (66, .dup, 1), (67, .getfield 125, 3), (70, .iconst 1, 1), (71, .iadd, 1), (72, .putfield 125, 3), (75, .goto (-36), 3), (78, .iconst 0, 1), (79, .istore 4, 2), (81, .iload 4, 2), (83, .aload_n 1, 1), (84, .getfield 67, 3), (87, .if_icmp .ge 29, 3), (90, .aload_n 1, 1), (91, .getfield 70, 3), (94, .iload 4, 2), (96, .aaload, 1)]
set_option maxRecDepth 20000 in
theorem dn_108_0_1_ok : dn_108_0_1.all (fun q => decide (decode (xm_b n_108) q.1 = .ok (q.2.1, q.2.2))) = true := xa_g_ok (by decide +kernel)
def dn_108_0_2 : List (Nat × Instr × Nat) := [(97, .aload_n 1, 1), (98, .getfield 70, 3), (101, .iload 4, 2), (103, .aaload, 1), (104, .getfield 74, 3), (107, .putfield 132, 3), (110, .iinc 4 1, 3), (113, .goto (-32), 3), (116, .iload_n 3, 1), (117, .aload_n 0, 1), (118, .getfield 38, 3), (121, .aload_n 1, 1), (122, .getfield 49, 3), (125, .iaload, 1), (126, .imul, 1), (127, .istore 4, 2), (129, .aload_n 1, 1), (130, .getfield 70, 3), (133, .iload_n 2, 1), (134, .iconst 2, 1), (135, .idiv, 1), (136, .aaload, 1), (137, .dup, 1), (138, .getfield 132, 3), (141, .iload_n 2, 1)]
set_option maxRecDepth 20000 in
theorem dn_108_0_2_ok : dn_108_0_2.all (fun q => decide (decode (xm_b n_108) q.1 = .ok (q.2.1, q.2.2))) = true := xa_g_ok (by decide +kernel)
def dn_108_0_3 : List (Nat × Instr × Nat) := [(142, .iconst 2, 1), (143, .irem, 1), (144, .ifCond .ne 8, 3), (147, .iload 4, 2), (149, .goto 6, 3), (152, .iload 4, 2), (154, .ineg, 1), (155, .iadd, 1), (156, .putfield 132, 3), (159, .aload_n 1, 1), (160, .iconst (-1), 1), (161, .invokevirtual 135, 3), (164, .iconst 1, 1), (165, .ireturn, 1)]
set_option maxRecDepth 20000 in
theorem dn_108_0_3_ok : dn_108_0_3.all (fun q => decide (decode (xm_b n_108) q.1 = .ok (q.2.1, q.2.2))) = true := xa_g_ok (by decide +kernel)
def te_108_0 : Nat → eE := (e_T 22 (e_T 8 (e_T 1 (e_T 0 (e_L 0 (0, ei_load 1 2 1, 0, 0)) (e_L 1 (0, ei_getf eft elay 0 18 4, 0, 0))) (e_T 4 (e_L 4 (0, ei_if1 2 22 7, 0, 0)) (e_T 7 (e_L 7 (0, ei_load 1 2 8, 0, 0)) (e_L 8 (0, ei_getf eft elay 0 18 11, 0, 0))))) (e_T 13 (e_T 11 (e_L 11 (0, ei_load 0 2 12, 0, 0)) (e_T 12 (e_L 12 (0, ei_load 1 2 13, 0, 0)) (e_L 13 (0, ei_getf eft elay 0 17 16, 0, 0)))) (e_T 16 (e_L 16 (2, e_nof, 95, 2)) (e_T 19 (e_L 19 (0, ei_if2 2 24 22, 0, 0)) (e_L 22 (0, ei_push (0, 0) 23, 0, 0)))))) (e_T 29 (e_T 24 (e_T 23 (e_L 23 (1, e_nof, 4, 0)) (e_L 24 (0, ei_load 0 2 25, 0, 0))) (e_T 25 (e_L 25 (0, ei_load 1 2 26, 0, 0)) (e_T 26 (e_L 26 (0, ei_getf eft elay 0 17 29, 0, 0)) (e_L 29 (0, ei_load 1 2 30, 0, 0))))) (e_T 36 (e_T 30 (e_L 30 (0, ei_getf eft elay 0 18 33, 0, 0)) (e_T 33 (e_L 33 (2, e_nof, 96, 3)) (e_L 36 (0, ei_stor 2 0 37, 0, 0)))) (e_T 37 (e_L 37 (0, ei_push (0, 0) 38, 0, 0)) (e_T 38 (e_L 38 (0, ei_stor 3 0 39, 0, 0)) (e_L 39 (0, ei_load 0 2 40, 0, 0)))))))
set_option maxRecDepth 20000 in
set_option maxHeartbeats 4000000 in
theorem te_108_0_ok : ∀ pc, e_EOq eft cls elay eI n_108 pc (te_108_0 pc) :=
  (e_Tok2
  (e_Tok2
  (e_Tok2
  (e_Tok2
  (e_Lok (ld_aload_n_1 (x_dk dn_108_0_0_ok 0 rfl)))
  (e_Lok (lk_6_125g ho_108 (x_dk dn_108_0_0_ok 1 rfl))))
  (e_Tok2
  (e_Lok (e_st (I := eI) (er_iflt (off := 18) (tg := 22) (x_dk dn_108_0_0_ok 2 rfl) (by decide)) nx_if1))
  (e_Tok2
  (e_Lok (ld_aload_n_1 (x_dk dn_108_0_0_ok 3 rfl)))
  (e_Lok (lk_6_125g ho_108 (x_dk dn_108_0_0_ok 4 rfl))))))
  (e_Tok2
  (e_Tok2
  (e_Lok (ld_aload_n_0 (x_dk dn_108_0_0_ok 5 rfl)))
  (e_Tok2
  (e_Lok (ld_aload_n_1 (x_dk dn_108_0_0_ok 6 rfl)))
  (e_Lok (lk_6_49g ho_108 (x_dk dn_108_0_0_ok 7 rfl)))))
  (e_Tok2
  (e_Lok (lk_6_45 ho_108 (x_dk dn_108_0_0_ok 8 rfl)))
  (e_Tok2
  (e_Lok (e_st (I := eI) (er_icmplt (off := 5) (tg := 24) (x_dk dn_108_0_0_ok 9 rfl) (by decide)) nx_if2))
  (e_Lok (ps_iconst_0 (x_dk dn_108_0_0_ok 10 rfl)))))))
  (e_Tok2
  (e_Tok2
  (e_Tok2
  (e_Lok (e_rt (I := eI) (k := 4) ⟨(x_dk dn_108_0_0_ok 11 rfl), rfl⟩))
  (e_Lok (ld_aload_n_0 (x_dk dn_108_0_0_ok 12 rfl))))
  (e_Tok2
  (e_Lok (ld_aload_n_1 (x_dk dn_108_0_0_ok 13 rfl)))
  (e_Tok2
  (e_Lok (lk_6_49g ho_108 (x_dk dn_108_0_0_ok 14 rfl)))
  (e_Lok (ld_aload_n_1 (x_dk dn_108_0_0_ok 15 rfl))))))
  (e_Tok2
  (e_Tok2
  (e_Lok (lk_6_125g ho_108 (x_dk dn_108_0_0_ok 16 rfl)))
  (e_Tok2
  (e_Lok (lk_6_122 ho_108 (x_dk dn_108_0_0_ok 17 rfl)))
  (e_Lok (e_st (I := eI) (er_istore_n (i := 2) (x_dk dn_108_0_0_ok 18 rfl) (by decide +kernel)) nx_stor))))
  (e_Tok2
  (e_Lok (ps_iconst_0 (x_dk dn_108_0_0_ok 19 rfl)))
  (e_Tok2
  (e_Lok (e_st (I := eI) (er_istore_n (i := 3) (x_dk dn_108_0_0_ok 20 rfl) (by decide +kernel)) nx_stor))
  (e_Lok (ld_aload_n_0 (x_dk dn_108_0_0_ok 21 rfl))))))))
def te_108_22 : Nat → eE := (e_T 62 (e_T 48 (e_T 41 (e_T 40 (e_L 40 (0, ei_load 1 2 41, 0, 0)) (e_L 41 (0, ei_getf eft elay 0 17 44, 0, 0))) (e_T 44 (e_L 44 (0, ei_load 1 2 45, 0, 0)) (e_T 45 (e_L 45 (0, ei_getf eft elay 0 18 48, 0, 0)) (e_L 48 (2, e_nof, 96, 3))))) (e_T 55 (e_T 51 (e_L 51 (0, ei_load 2 0 52, 0, 0)) (e_T 52 (e_L 52 (0, ei_if2 1 78 55, 0, 0)) (e_L 55 (0, ei_load 3 0 56, 0, 0)))) (e_T 56 (e_L 56 (0, ei_push (0, 1000) 59, 0, 0)) (e_T 59 (e_L 59 (0, ei_if2 3 78 62, 0, 0)) (e_L 62 (0, ei_inc 3 1 65, 0, 0)))))) (e_T 71 (e_T 66 (e_T 65 (e_L 65 (0, ei_load 1 2 66, 0, 0)) (e_L 66 (0, ei_stk ef_dup 67, 0, 0))) (e_T 67 (e_L 67 (0, ei_getf eft elay 0 18 70, 0, 0)) (e_T 70 (e_L 70 (0, ei_push (0, 1) 71, 0, 0)) (e_L 71 (0, ei_bin eF_add 72, 0, 0))))) (e_T 78 (e_T 72 (e_L 72 (0, ei_putf eft elay 0 18 0 75, 0, 0)) (e_T 75 (e_L 75 (0, ei_goto 39, 0, 0)) (e_L 78 (0, ei_push (0, 0) 79, 0, 0)))) (e_T 79 (e_L 79 (0, ei_stor 4 0 81, 0, 0)) (e_T 81 (e_L 81 (0, ei_load 4 0 83, 0, 0)) (e_L 83 (0, ei_load 1 2 84, 0, 0)))))))
set_option maxRecDepth 20000 in
set_option maxHeartbeats 4000000 in
theorem te_108_22_ok : ∀ pc, e_EOq eft cls elay eI n_108 pc (te_108_22 pc) :=
  (e_Tok2
  (e_Tok2
  (e_Tok2
  (e_Tok2
  (e_Lok (ld_aload_n_1 (x_dk dn_108_0_0_ok 22 rfl)))
  (e_Lok (lk_6_49g ho_108 (x_dk dn_108_0_0_ok 23 rfl))))
  (e_Tok2
  (e_Lok (ld_aload_n_1 (x_dk dn_108_0_0_ok 24 rfl)))
  (e_Tok2
  (e_Lok (lk_6_125g ho_108 (x_dk dn_108_0_1_ok 0 rfl)))
  (e_Lok (lk_6_122 ho_108 (x_dk dn_108_0_1_ok 1 rfl))))))
  (e_Tok2
  (e_Tok2
  (e_Lok (ld_iload_n_2 (x_dk dn_108_0_1_ok 2 rfl)))
  (e_Tok2
  (e_Lok (e_st (I := eI) (er_icmpne (off := 26) (tg := 78) (x_dk dn_108_0_1_ok 3 rfl) (by decide)) nx_if2))
  (e_Lok (ld_iload_n_3 (x_dk dn_108_0_1_ok 4 rfl)))))
  (e_Tok2
  (e_Lok (ps_sipush_1000 (x_dk dn_108_0_1_ok 5 rfl)))
  (e_Tok2
  (e_Lok (e_st (I := eI) (er_icmpge (off := 19) (tg := 78) (x_dk dn_108_0_1_ok 6 rfl) (by decide)) nx_if2))
  (e_Lok (e_st (I := eI) (er_iinc (i := 3) (n := 1) (x_dk dn_108_0_1_ok 7 rfl) (by decide +kernel) (by decide)) nx_inc))))))
  (e_Tok2
  (e_Tok2
  (e_Tok2
  (e_Lok (ld_aload_n_1 (x_dk dn_108_0_1_ok 8 rfl)))
  (e_Lok (e_st (I := eI) (er_dup (x_dk dn_108_0_1_ok 9 rfl)) (nx_stk bf_dup))))
  (e_Tok2
  (e_Lok (lk_6_125g ho_108 (x_dk dn_108_0_1_ok 10 rfl)))
  (e_Tok2
  (e_Lok (ps_iconst_1 (x_dk dn_108_0_1_ok 11 rfl)))
  (e_Lok (sm_iadd (x_dk dn_108_0_1_ok 12 rfl))))))
  (e_Tok2
  (e_Tok2
  (e_Lok (lk_6_125p ho_108 (x_dk dn_108_0_1_ok 13 rfl)))
  (e_Tok2
  (e_Lok (e_st (I := eI) (er_goto (off := (-36)) (tg := 39) (x_dk dn_108_0_1_ok 14 rfl) (by decide)) nx_goto))
  (e_Lok (ps_iconst_0 (x_dk dn_108_0_1_ok 15 rfl)))))
  (e_Tok2
  (e_Lok (e_st (I := eI) (er_istore (i := 4) (x_dk dn_108_0_1_ok 16 rfl) (by decide +kernel)) nx_stor))
  (e_Tok2
  (e_Lok (ld_iload_4 (x_dk dn_108_0_1_ok 17 rfl)))
  (e_Lok (ld_aload_n_1 (x_dk dn_108_0_1_ok 18 rfl))))))))
def te_108_44 : Nat → eE := (e_T 104 (e_T 94 (e_T 87 (e_T 84 (e_L 84 (0, ei_getf eft elay 0 8 87, 0, 0)) (e_L 87 (0, ei_if2 3 116 90, 0, 0))) (e_T 90 (e_L 90 (0, ei_load 1 2 91, 0, 0)) (e_T 91 (e_L 91 (0, ei_getf eft elay 0 0 94, 0, 0)) (e_L 94 (0, ei_load 4 0 96, 0, 0))))) (e_T 98 (e_T 96 (e_L 96 (0, ei_aald elay 97, 0, 0)) (e_T 97 (e_L 97 (0, ei_load 1 2 98, 0, 0)) (e_L 98 (0, ei_getf eft elay 0 0 101, 0, 0)))) (e_T 101 (e_L 101 (0, ei_load 4 0 103, 0, 0)) (e_T 103 (e_L 103 (0, ei_aald elay 104, 0, 0)) (e_L 104 (0, ei_getf eft elay 5 7 107, 0, 0)))))) (e_T 117 (e_T 110 (e_T 107 (e_L 107 (0, ei_putf eft elay 5 9 0 110, 0, 0)) (e_L 110 (0, ei_inc 4 1 113, 0, 0))) (e_T 113 (e_L 113 (0, ei_goto 81, 0, 0)) (e_T 116 (e_L 116 (0, ei_load 3 0 117, 0, 0)) (e_L 117 (0, ei_load 0 2 118, 0, 0))))) (e_T 122 (e_T 118 (e_L 118 (0, ei_getf eft elay 6 12 121, 0, 0)) (e_T 121 (e_L 121 (0, ei_load 1 2 122, 0, 0)) (e_L 122 (0, ei_getf eft elay 0 17 125, 0, 0)))) (e_T 125 (e_L 125 (0, ei_ald elay false 126, 0, 0)) (e_T 126 (e_L 126 (0, ei_bin eF_mul 127, 0, 0)) (e_L 127 (0, ei_stor 4 0 129, 0, 0)))))))
set_option maxRecDepth 20000 in
set_option maxHeartbeats 4000000 in
theorem te_108_44_ok : ∀ pc, e_EOq eft cls elay eI n_108 pc (te_108_44 pc) :=
  (e_Tok2
  (e_Tok2
  (e_Tok2
  (e_Tok2
  (e_Lok (lk_6_67g ho_108 (x_dk dn_108_0_1_ok 19 rfl)))
  (e_Lok (e_st (I := eI) (er_icmpge (off := 29) (tg := 116) (x_dk dn_108_0_1_ok 20 rfl) (by decide)) nx_if2)))
  (e_Tok2
  (e_Lok (ld_aload_n_1 (x_dk dn_108_0_1_ok 21 rfl)))
  (e_Tok2
  (e_Lok (lk_6_70g ho_108 (x_dk dn_108_0_1_ok 22 rfl)))
  (e_Lok (ld_iload_4 (x_dk dn_108_0_1_ok 23 rfl))))))
  (e_Tok2
  (e_Tok2
  (e_Lok (e_st (I := eI) (er_aaload (x_dk dn_108_0_1_ok 24 rfl)) nx_aald))
  (e_Tok2
  (e_Lok (ld_aload_n_1 (x_dk dn_108_0_2_ok 0 rfl)))
  (e_Lok (lk_6_70g ho_108 (x_dk dn_108_0_2_ok 1 rfl)))))
  (e_Tok2
  (e_Lok (ld_iload_4 (x_dk dn_108_0_2_ok 2 rfl)))
  (e_Tok2
  (e_Lok (e_st (I := eI) (er_aaload (x_dk dn_108_0_2_ok 3 rfl)) nx_aald))
  (e_Lok (lk_6_74g ho_108 (x_dk dn_108_0_2_ok 4 rfl)))))))
  (e_Tok2
  (e_Tok2
  (e_Tok2
  (e_Lok (lk_6_132p ho_108 (x_dk dn_108_0_2_ok 5 rfl)))
  (e_Lok (e_st (I := eI) (er_iinc (i := 4) (n := 1) (x_dk dn_108_0_2_ok 6 rfl) (by decide +kernel) (by decide)) nx_inc)))
  (e_Tok2
  (e_Lok (e_st (I := eI) (er_goto (off := (-32)) (tg := 81) (x_dk dn_108_0_2_ok 7 rfl) (by decide)) nx_goto))
  (e_Tok2
  (e_Lok (ld_iload_n_3 (x_dk dn_108_0_2_ok 8 rfl)))
  (e_Lok (ld_aload_n_0 (x_dk dn_108_0_2_ok 9 rfl))))))
  (e_Tok2
  (e_Tok2
  (e_Lok (lk_6_38g ho_108 (x_dk dn_108_0_2_ok 10 rfl)))
  (e_Tok2
  (e_Lok (ld_aload_n_1 (x_dk dn_108_0_2_ok 11 rfl)))
  (e_Lok (lk_6_49g ho_108 (x_dk dn_108_0_2_ok 12 rfl)))))
  (e_Tok2
  (e_Lok (sm_iaload (x_dk dn_108_0_2_ok 13 rfl)))
  (e_Tok2
  (e_Lok (sm_imul (x_dk dn_108_0_2_ok 14 rfl)))
  (e_Lok (e_st (I := eI) (er_istore (i := 4) (x_dk dn_108_0_2_ok 15 rfl) (by decide +kernel)) nx_stor)))))))
def te_108_66 : Nat → eE := (e_T 143 (e_T 135 (e_T 130 (e_T 129 (e_L 129 (0, ei_load 1 2 130, 0, 0)) (e_L 130 (0, ei_getf eft elay 0 0 133, 0, 0))) (e_T 133 (e_L 133 (0, ei_load 2 0 134, 0, 0)) (e_T 134 (e_L 134 (0, ei_push (0, 2) 135, 0, 0)) (e_L 135 (0, ei_bin eF_div 136, 0, 0))))) (e_T 138 (e_T 136 (e_L 136 (0, ei_aald elay 137, 0, 0)) (e_T 137 (e_L 137 (0, ei_stk ef_dup 138, 0, 0)) (e_L 138 (0, ei_getf eft elay 5 9 141, 0, 0)))) (e_T 141 (e_L 141 (0, ei_load 2 0 142, 0, 0)) (e_T 142 (e_L 142 (0, ei_push (0, 2) 143, 0, 0)) (e_L 143 (0, ei_bin eF_rem 144, 0, 0)))))) (e_T 155 (e_T 149 (e_T 144 (e_L 144 (0, ei_if1 1 152 147, 0, 0)) (e_T 147 (e_L 147 (0, ei_load 4 0 149, 0, 0)) (e_L 149 (0, ei_goto 155, 0, 0)))) (e_T 152 (e_L 152 (0, ei_load 4 0 154, 0, 0)) (e_T 154 (e_L 154 (0, ei_un (fun x => (0, e32 (-x))) 155, 0, 0)) (e_L 155 (0, ei_bin eF_add 156, 0, 0))))) (e_T 160 (e_T 156 (e_L 156 (0, ei_putf eft elay 5 9 0 159, 0, 0)) (e_T 159 (e_L 159 (0, ei_load 1 2 160, 0, 0)) (e_L 160 (0, ei_push (0, (-1)) 161, 0, 0)))) (e_T 161 (e_L 161 (2, e_nof, 13, 2)) (e_T 164 (e_L 164 (0, ei_push (0, 1) 165, 0, 0)) (e_L 165 (1, e_nof, 4, 0)))))))
set_option maxRecDepth 20000 in
set_option maxHeartbeats 4000000 in
theorem te_108_66_ok : ∀ pc, e_EOq eft cls elay eI n_108 pc (te_108_66 pc) :=
  (e_Tok2
  (e_Tok2
  (e_Tok2
  (e_Tok2
  (e_Lok (ld_aload_n_1 (x_dk dn_108_0_2_ok 16 rfl)))
  (e_Lok (lk_6_70g ho_108 (x_dk dn_108_0_2_ok 17 rfl))))
  (e_Tok2
  (e_Lok (ld_iload_n_2 (x_dk dn_108_0_2_ok 18 rfl)))
  (e_Tok2
  (e_Lok (ps_iconst_2 (x_dk dn_108_0_2_ok 19 rfl)))
  (e_Lok (e_st (I := eI) (er_idiv (x_dk dn_108_0_2_ok 20 rfl)) nx_bin)))))
  (e_Tok2
  (e_Tok2
  (e_Lok (e_st (I := eI) (er_aaload (x_dk dn_108_0_2_ok 21 rfl)) nx_aald))
  (e_Tok2
  (e_Lok (e_st (I := eI) (er_dup (x_dk dn_108_0_2_ok 22 rfl)) (nx_stk bf_dup)))
  (e_Lok (lk_6_132g ho_108 (x_dk dn_108_0_2_ok 23 rfl)))))
  (e_Tok2
  (e_Lok (ld_iload_n_2 (x_dk dn_108_0_2_ok 24 rfl)))
  (e_Tok2
  (e_Lok (ps_iconst_2 (x_dk dn_108_0_3_ok 0 rfl)))
  (e_Lok (e_st (I := eI) (er_irem (x_dk dn_108_0_3_ok 1 rfl)) nx_bin))))))
  (e_Tok2
  (e_Tok2
  (e_Tok2
  (e_Lok (e_st (I := eI) (er_ifne (off := 8) (tg := 152) (x_dk dn_108_0_3_ok 2 rfl) (by decide)) nx_if1))
  (e_Tok2
  (e_Lok (ld_iload_4 (x_dk dn_108_0_3_ok 3 rfl)))
  (e_Lok (e_st (I := eI) (er_goto (off := 6) (tg := 155) (x_dk dn_108_0_3_ok 4 rfl) (by decide)) nx_goto))))
  (e_Tok2
  (e_Lok (ld_iload_4 (x_dk dn_108_0_3_ok 5 rfl)))
  (e_Tok2
  (e_Lok (e_st (I := eI) (er_ineg (x_dk dn_108_0_3_ok 6 rfl)) (nx_un (fun _ => rfl))))
  (e_Lok (sm_iadd (x_dk dn_108_0_3_ok 7 rfl))))))
  (e_Tok2
  (e_Tok2
  (e_Lok (lk_6_132p ho_108 (x_dk dn_108_0_3_ok 8 rfl)))
  (e_Tok2
  (e_Lok (ld_aload_n_1 (x_dk dn_108_0_3_ok 9 rfl)))
  (e_Lok (ps_iconst_m1 (x_dk dn_108_0_3_ok 10 rfl)))))
  (e_Tok2
  (e_Lok (lk_6_135 ho_108 (x_dk dn_108_0_3_ok 11 rfl)))
  (e_Tok2
  (e_Lok (ps_iconst_1 (x_dk dn_108_0_3_ok 12 rfl)))
  (e_Lok (e_rt (I := eI) (k := 4) ⟨(x_dk dn_108_0_3_ok 13 rfl), rfl⟩)))))))
def te_108 : Nat → eE := (e_T 83 (e_T 39 te_108_0 te_108_22) (e_T 127 te_108_44 te_108_66))
theorem te_108_ok : ∀ pc, e_EOq eft cls elay eI n_108 pc (te_108 pc) := (e_Tok2 ((e_Tok2 (te_108_0_ok) (te_108_22_ok))) ((e_Tok2 (te_108_44_ok) (te_108_66_ok))))
theorem ho_109 : (xm_y n_109).cls = "RobotCellHouse$Points" := rfl
def dn_109_0_0 : List (Nat × Instr × Nat) := [(0, .aload_n 0, 1), (1, .getfield 24, 3), (4, .iconst (-1), 1), (5, .invokestatic 37, 3), (8, .aload_n 0, 1), (9, .invokevirtual 43, 3), (12, .return_, 1)]
set_option maxRecDepth 20000 in
theorem dn_109_0_0_ok : dn_109_0_0.all (fun q => decide (decode (xm_b n_109) q.1 = .ok (q.2.1, q.2.2))) = true := xa_g_ok (by decide +kernel)
def te_109_0 : Nat → eE := (e_T 4 (e_T 0 (e_L 0 (0, ei_load 0 2 1, 0, 0)) (e_T 1 (e_L 1 (0, ei_getf eft elay 7 4 4, 0, 0)) (e_L 4 (0, ei_push (0, (-1)) 5, 0, 0)))) (e_T 8 (e_T 5 (e_L 5 (2, e_nof, 452, 2)) (e_L 8 (0, ei_load 0 2 9, 0, 0))) (e_T 9 (e_L 9 (2, e_nof, 115, 1)) (e_L 12 (1, e_nof, 0, 0)))))
set_option maxRecDepth 20000 in
set_option maxHeartbeats 4000000 in
theorem te_109_0_ok : ∀ pc, e_EOq eft cls elay eI n_109 pc (te_109_0 pc) :=
  (e_Tok2
  (e_Tok2
  (e_Lok (ld_aload_n_0 (x_dk dn_109_0_0_ok 0 rfl)))
  (e_Tok2
  (e_Lok (lk_7_24g ho_109 (x_dk dn_109_0_0_ok 1 rfl)))
  (e_Lok (ps_iconst_m1 (x_dk dn_109_0_0_ok 2 rfl)))))
  (e_Tok2
  (e_Tok2
  (e_Lok (lk_7_37 ho_109 (x_dk dn_109_0_0_ok 3 rfl)))
  (e_Lok (ld_aload_n_0 (x_dk dn_109_0_0_ok 4 rfl))))
  (e_Tok2
  (e_Lok (lk_7_43 ho_109 (x_dk dn_109_0_0_ok 5 rfl)))
  (e_Lok (e_rt (I := eI) (k := 0) ⟨(x_dk dn_109_0_0_ok 6 rfl), rfl⟩)))))
def te_109 : Nat → eE := te_109_0
theorem te_109_ok : ∀ pc, e_EOq eft cls elay eI n_109 pc (te_109 pc) := te_109_0_ok
theorem ho_110 : (xm_y n_110).cls = "RobotCellHouse$Points" := rfl
def dn_110_0_0 : List (Nat × Instr × Nat) := [(0, .aload_n 0, 1), (1, .getfield 9, 3), (4, .iconst 0, 1), (5, .invokestatic 37, 3), (8, .iconst 0, 1), (9, .istore_n 1, 1), (10, .iload_n 1, 1), (11, .bipush 64, 2), (13, .if_icmp .ge 16, 3), (16, .aload_n 0, 1), (17, .getfield 27, 3), (20, .iload_n 1, 1), (21, .iconst 0, 1), (22, .bastore, 1), (23, .iinc 1 1, 3), (26, .goto (-16), 3), (29, .aload_n 0, 1), (30, .invokevirtual 46, 3), (33, .aload_n 0, 1), (34, .getfield 18, 3), (37, .iconst 0, 1), (38, .invokestatic 37, 3), (41, .return_, 1)]
set_option maxRecDepth 20000 in
theorem dn_110_0_0_ok : dn_110_0_0.all (fun q => decide (decode (xm_b n_110) q.1 = .ok (q.2.1, q.2.2))) = true := xa_g_ok (by decide +kernel)
def te_110_0 : Nat → eE := (e_T 17 (e_T 8 (e_T 1 (e_T 0 (e_L 0 (0, ei_load 0 2 1, 0, 0)) (e_L 1 (0, ei_getf eft elay 7 0 4, 0, 0))) (e_T 4 (e_L 4 (0, ei_push (0, 0) 5, 0, 0)) (e_T 5 (e_L 5 (2, e_nof, 452, 2)) (e_L 8 (0, ei_push (0, 0) 9, 0, 0))))) (e_T 11 (e_T 9 (e_L 9 (0, ei_stor 1 0 10, 0, 0)) (e_T 10 (e_L 10 (0, ei_load 1 0 11, 0, 0)) (e_L 11 (0, ei_push (0, 64) 13, 0, 0)))) (e_T 13 (e_L 13 (0, ei_if2 3 29 16, 0, 0)) (e_T 16 (e_L 16 (0, ei_load 0 2 17, 0, 0)) (e_L 17 (0, ei_getf eft elay 7 5 20, 0, 0)))))) (e_T 29 (e_T 22 (e_T 20 (e_L 20 (0, ei_load 1 0 21, 0, 0)) (e_T 21 (e_L 21 (0, ei_push (0, 0) 22, 0, 0)) (e_L 22 (0, ei_ast elay true 23, 0, 0)))) (e_T 23 (e_L 23 (0, ei_inc 1 1 26, 0, 0)) (e_T 26 (e_L 26 (0, ei_goto 10, 0, 0)) (e_L 29 (0, ei_load 0 2 30, 0, 0))))) (e_T 34 (e_T 30 (e_L 30 (2, e_nof, 116, 1)) (e_T 33 (e_L 33 (0, ei_load 0 2 34, 0, 0)) (e_L 34 (0, ei_getf eft elay 7 2 37, 0, 0)))) (e_T 37 (e_L 37 (0, ei_push (0, 0) 38, 0, 0)) (e_T 38 (e_L 38 (2, e_nof, 452, 2)) (e_L 41 (1, e_nof, 0, 0)))))))
set_option maxRecDepth 20000 in
set_option maxHeartbeats 4000000 in
theorem te_110_0_ok : ∀ pc, e_EOq eft cls elay eI n_110 pc (te_110_0 pc) :=
  (e_Tok2
  (e_Tok2
  (e_Tok2
  (e_Tok2
  (e_Lok (ld_aload_n_0 (x_dk dn_110_0_0_ok 0 rfl)))
  (e_Lok (lk_7_9g ho_110 (x_dk dn_110_0_0_ok 1 rfl))))
  (e_Tok2
  (e_Lok (ps_iconst_0 (x_dk dn_110_0_0_ok 2 rfl)))
  (e_Tok2
  (e_Lok (lk_7_37 ho_110 (x_dk dn_110_0_0_ok 3 rfl)))
  (e_Lok (ps_iconst_0 (x_dk dn_110_0_0_ok 4 rfl))))))
  (e_Tok2
  (e_Tok2
  (e_Lok (e_st (I := eI) (er_istore_n (i := 1) (x_dk dn_110_0_0_ok 5 rfl) (by decide +kernel)) nx_stor))
  (e_Tok2
  (e_Lok (ld_iload_n_1 (x_dk dn_110_0_0_ok 6 rfl)))
  (e_Lok (ps_bipush_64 (x_dk dn_110_0_0_ok 7 rfl)))))
  (e_Tok2
  (e_Lok (e_st (I := eI) (er_icmpge (off := 16) (tg := 29) (x_dk dn_110_0_0_ok 8 rfl) (by decide)) nx_if2))
  (e_Tok2
  (e_Lok (ld_aload_n_0 (x_dk dn_110_0_0_ok 9 rfl)))
  (e_Lok (lk_7_27g ho_110 (x_dk dn_110_0_0_ok 10 rfl)))))))
  (e_Tok2
  (e_Tok2
  (e_Tok2
  (e_Lok (ld_iload_n_1 (x_dk dn_110_0_0_ok 11 rfl)))
  (e_Tok2
  (e_Lok (ps_iconst_0 (x_dk dn_110_0_0_ok 12 rfl)))
  (e_Lok (e_st (I := eI) (er_bastore (x_dk dn_110_0_0_ok 13 rfl)) nx_ast))))
  (e_Tok2
  (e_Lok (e_st (I := eI) (er_iinc (i := 1) (n := 1) (x_dk dn_110_0_0_ok 14 rfl) (by decide +kernel) (by decide)) nx_inc))
  (e_Tok2
  (e_Lok (e_st (I := eI) (er_goto (off := (-16)) (tg := 10) (x_dk dn_110_0_0_ok 15 rfl) (by decide)) nx_goto))
  (e_Lok (ld_aload_n_0 (x_dk dn_110_0_0_ok 16 rfl))))))
  (e_Tok2
  (e_Tok2
  (e_Lok (lk_7_46 ho_110 (x_dk dn_110_0_0_ok 17 rfl)))
  (e_Tok2
  (e_Lok (ld_aload_n_0 (x_dk dn_110_0_0_ok 18 rfl)))
  (e_Lok (lk_7_18g ho_110 (x_dk dn_110_0_0_ok 19 rfl)))))
  (e_Tok2
  (e_Lok (ps_iconst_0 (x_dk dn_110_0_0_ok 20 rfl)))
  (e_Tok2
  (e_Lok (lk_7_37 ho_110 (x_dk dn_110_0_0_ok 21 rfl)))
  (e_Lok (e_rt (I := eI) (k := 0) ⟨(x_dk dn_110_0_0_ok 22 rfl), rfl⟩)))))))
def te_110 : Nat → eE := te_110_0
theorem te_110_ok : ∀ pc, e_EOq eft cls elay eI n_110 pc (te_110 pc) := te_110_0_ok
theorem ho_111 : (xm_y n_111).cls = "RobotCellHouse$Points" := rfl
def dn_111_0_0 : List (Nat × Instr × Nat) := [(0, .aload_n 0, 1), (1, .getfield 24, 3), (4, .iload_n 2, 1), (5, .iaload, 1), (6, .ifCond .lt 5, 3), (9, .iconst 0, 1), (10, .ireturn, 1), (11, .iload_n 1, 1), (12, .istore_n 3, 1), (13, .iconst 0, 1), (14, .istore 4, 2), (16, .iload 4, 2), (18, .bipush 64, 2), (20, .if_icmp .ge 27, 3), (23, .iload_n 3, 1), (24, .ifCond .lt 23, 3), (27, .iload_n 3, 1), (28, .iload_n 2, 1), (29, .if_icmp .ne 5, 3), (32, .iconst 0, 1), (33, .ireturn, 1), (34, .aload_n 0, 1), (35, .getfield 24, 3), (38, .iload_n 3, 1), (39, .iaload, 1)]
set_option maxRecDepth 20000 in
theorem dn_111_0_0_ok : dn_111_0_0.all (fun q => decide (decode (xm_b n_111) q.1 = .ok (q.2.1, q.2.2))) = true := xa_g_ok (by decide +kernel)
def dn_111_0_1 : List (Nat × Instr × Nat) := [(40, .istore_n 3, 1), (41, .iinc 4 1, 3), (44, .goto (-28), 3), (47, .iconst 1, 1), (48, .ireturn, 1)]
set_option maxRecDepth 20000 in
theorem dn_111_0_1_ok : dn_111_0_1.all (fun q => decide (decode (xm_b n_111) q.1 = .ok (q.2.1, q.2.2))) = true := xa_g_ok (by decide +kernel)
def te_111_0 : Nat → eE := (e_T 23 (e_T 10 (e_T 4 (e_T 0 (e_L 0 (0, ei_load 0 2 1, 0, 0)) (e_T 1 (e_L 1 (0, ei_getf eft elay 7 4 4, 0, 0)) (e_L 4 (0, ei_load 2 0 5, 0, 0)))) (e_T 6 (e_T 5 (e_L 5 (0, ei_ald elay false 6, 0, 0)) (e_L 6 (0, ei_if1 2 11 9, 0, 0))) (e_T 9 (e_L 9 (0, ei_push (0, 0) 10, 0, 0)) (e_L 10 (1, e_nof, 4, 0))))) (e_T 14 (e_T 12 (e_T 11 (e_L 11 (0, ei_load 1 0 12, 0, 0)) (e_L 12 (0, ei_stor 3 0 13, 0, 0))) (e_T 13 (e_L 13 (0, ei_push (0, 0) 14, 0, 0)) (e_L 14 (0, ei_stor 4 0 16, 0, 0)))) (e_T 18 (e_T 16 (e_L 16 (0, ei_load 4 0 18, 0, 0)) (e_L 18 (0, ei_push (0, 64) 20, 0, 0))) (e_T 20 (e_L 20 (0, ei_if2 3 47 23, 0, 0)) (e_L 23 (0, ei_load 3 0 24, 0, 0)))))) (e_T 34 (e_T 28 (e_T 24 (e_L 24 (0, ei_if1 2 47 27, 0, 0)) (e_T 27 (e_L 27 (0, ei_load 3 0 28, 0, 0)) (e_L 28 (0, ei_load 2 0 29, 0, 0)))) (e_T 32 (e_T 29 (e_L 29 (0, ei_if2 1 34 32, 0, 0)) (e_L 32 (0, ei_push (0, 0) 33, 0, 0))) (e_T 33 (e_L 33 (1, e_nof, 4, 0)) (e_L 34 (0, ei_load 0 2 35, 0, 0))))) (e_T 40 (e_T 38 (e_T 35 (e_L 35 (0, ei_getf eft elay 7 4 38, 0, 0)) (e_L 38 (0, ei_load 3 0 39, 0, 0))) (e_T 39 (e_L 39 (0, ei_ald elay false 40, 0, 0)) (e_L 40 (0, ei_stor 3 0 41, 0, 0)))) (e_T 44 (e_T 41 (e_L 41 (0, ei_inc 4 1 44, 0, 0)) (e_L 44 (0, ei_goto 16, 0, 0))) (e_T 47 (e_L 47 (0, ei_push (0, 1) 48, 0, 0)) (e_L 48 (1, e_nof, 4, 0)))))))
set_option maxRecDepth 20000 in
set_option maxHeartbeats 4000000 in
theorem te_111_0_ok : ∀ pc, e_EOq eft cls elay eI n_111 pc (te_111_0 pc) :=
  (e_Tok2
  (e_Tok2
  (e_Tok2
  (e_Tok2
  (e_Lok (ld_aload_n_0 (x_dk dn_111_0_0_ok 0 rfl)))
  (e_Tok2
  (e_Lok (lk_7_24g ho_111 (x_dk dn_111_0_0_ok 1 rfl)))
  (e_Lok (ld_iload_n_2 (x_dk dn_111_0_0_ok 2 rfl)))))
  (e_Tok2
  (e_Tok2
  (e_Lok (sm_iaload (x_dk dn_111_0_0_ok 3 rfl)))
  (e_Lok (e_st (I := eI) (er_iflt (off := 5) (tg := 11) (x_dk dn_111_0_0_ok 4 rfl) (by decide)) nx_if1)))
  (e_Tok2
  (e_Lok (ps_iconst_0 (x_dk dn_111_0_0_ok 5 rfl)))
  (e_Lok (e_rt (I := eI) (k := 4) ⟨(x_dk dn_111_0_0_ok 6 rfl), rfl⟩)))))
  (e_Tok2
  (e_Tok2
  (e_Tok2
  (e_Lok (ld_iload_n_1 (x_dk dn_111_0_0_ok 7 rfl)))
  (e_Lok (e_st (I := eI) (er_istore_n (i := 3) (x_dk dn_111_0_0_ok 8 rfl) (by decide +kernel)) nx_stor)))
  (e_Tok2
  (e_Lok (ps_iconst_0 (x_dk dn_111_0_0_ok 9 rfl)))
  (e_Lok (e_st (I := eI) (er_istore (i := 4) (x_dk dn_111_0_0_ok 10 rfl) (by decide +kernel)) nx_stor))))
  (e_Tok2
  (e_Tok2
  (e_Lok (ld_iload_4 (x_dk dn_111_0_0_ok 11 rfl)))
  (e_Lok (ps_bipush_64 (x_dk dn_111_0_0_ok 12 rfl))))
  (e_Tok2
  (e_Lok (e_st (I := eI) (er_icmpge (off := 27) (tg := 47) (x_dk dn_111_0_0_ok 13 rfl) (by decide)) nx_if2))
  (e_Lok (ld_iload_n_3 (x_dk dn_111_0_0_ok 14 rfl)))))))
  (e_Tok2
  (e_Tok2
  (e_Tok2
  (e_Lok (e_st (I := eI) (er_iflt (off := 23) (tg := 47) (x_dk dn_111_0_0_ok 15 rfl) (by decide)) nx_if1))
  (e_Tok2
  (e_Lok (ld_iload_n_3 (x_dk dn_111_0_0_ok 16 rfl)))
  (e_Lok (ld_iload_n_2 (x_dk dn_111_0_0_ok 17 rfl)))))
  (e_Tok2
  (e_Tok2
  (e_Lok (e_st (I := eI) (er_icmpne (off := 5) (tg := 34) (x_dk dn_111_0_0_ok 18 rfl) (by decide)) nx_if2))
  (e_Lok (ps_iconst_0 (x_dk dn_111_0_0_ok 19 rfl))))
  (e_Tok2
  (e_Lok (e_rt (I := eI) (k := 4) ⟨(x_dk dn_111_0_0_ok 20 rfl), rfl⟩))
  (e_Lok (ld_aload_n_0 (x_dk dn_111_0_0_ok 21 rfl))))))
  (e_Tok2
  (e_Tok2
  (e_Tok2
  (e_Lok (lk_7_24g ho_111 (x_dk dn_111_0_0_ok 22 rfl)))
  (e_Lok (ld_iload_n_3 (x_dk dn_111_0_0_ok 23 rfl))))
  (e_Tok2
  (e_Lok (sm_iaload (x_dk dn_111_0_0_ok 24 rfl)))
  (e_Lok (e_st (I := eI) (er_istore_n (i := 3) (x_dk dn_111_0_1_ok 0 rfl) (by decide +kernel)) nx_stor))))
  (e_Tok2
  (e_Tok2
  (e_Lok (e_st (I := eI) (er_iinc (i := 4) (n := 1) (x_dk dn_111_0_1_ok 1 rfl) (by decide +kernel) (by decide)) nx_inc))
  (e_Lok (e_st (I := eI) (er_goto (off := (-28)) (tg := 16) (x_dk dn_111_0_1_ok 2 rfl) (by decide)) nx_goto)))
  (e_Tok2
  (e_Lok (ps_iconst_1 (x_dk dn_111_0_1_ok 3 rfl)))
  (e_Lok (e_rt (I := eI) (k := 4) ⟨(x_dk dn_111_0_1_ok 4 rfl), rfl⟩)))))))
def te_111 : Nat → eE := te_111_0
theorem te_111_ok : ∀ pc, e_EOq eft cls elay eI n_111 pc (te_111 pc) := te_111_0_ok
theorem ho_112 : (xm_y n_112).cls = "RobotCellHouse$Points" := rfl
def dn_112_0_0 : List (Nat × Instr × Nat) := [(0, .aload_n 0, 1), (1, .getfield 24, 3), (4, .iload_n 2, 1), (5, .iload_n 1, 1), (6, .iastore, 1), (7, .aload_n 0, 1), (8, .getfield 31, 3), (11, .iload_n 2, 1), (12, .iload_n 3, 1), (13, .bastore, 1), (14, .aload_n 0, 1), (15, .invokevirtual 43, 3), (18, .aload_n 0, 1), (19, .invokevirtual 49, 3), (22, .return_, 1)]
set_option maxRecDepth 20000 in
theorem dn_112_0_0_ok : dn_112_0_0.all (fun q => decide (decode (xm_b n_112) q.1 = .ok (q.2.1, q.2.2))) = true := xa_g_ok (by decide +kernel)
def te_112_0 : Nat → eE := (e_T 8 (e_T 4 (e_T 0 (e_L 0 (0, ei_load 0 2 1, 0, 0)) (e_T 1 (e_L 1 (0, ei_getf eft elay 7 4 4, 0, 0)) (e_L 4 (0, ei_load 2 0 5, 0, 0)))) (e_T 6 (e_T 5 (e_L 5 (0, ei_load 1 0 6, 0, 0)) (e_L 6 (0, ei_ast elay false 7, 0, 0))) (e_T 7 (e_L 7 (0, ei_load 0 2 8, 0, 0)) (e_L 8 (0, ei_getf eft elay 7 6 11, 0, 0))))) (e_T 14 (e_T 12 (e_T 11 (e_L 11 (0, ei_load 2 0 12, 0, 0)) (e_L 12 (0, ei_load 3 0 13, 0, 0))) (e_T 13 (e_L 13 (0, ei_ast elay true 14, 0, 0)) (e_L 14 (0, ei_load 0 2 15, 0, 0)))) (e_T 18 (e_T 15 (e_L 15 (2, e_nof, 115, 1)) (e_L 18 (0, ei_load 0 2 19, 0, 0))) (e_T 19 (e_L 19 (2, e_nof, 110, 1)) (e_L 22 (1, e_nof, 0, 0))))))
set_option maxRecDepth 20000 in
set_option maxHeartbeats 4000000 in
theorem te_112_0_ok : ∀ pc, e_EOq eft cls elay eI n_112 pc (te_112_0 pc) :=
  (e_Tok2
  (e_Tok2
  (e_Tok2
  (e_Lok (ld_aload_n_0 (x_dk dn_112_0_0_ok 0 rfl)))
  (e_Tok2
  (e_Lok (lk_7_24g ho_112 (x_dk dn_112_0_0_ok 1 rfl)))
  (e_Lok (ld_iload_n_2 (x_dk dn_112_0_0_ok 2 rfl)))))
  (e_Tok2
  (e_Tok2
  (e_Lok (ld_iload_n_1 (x_dk dn_112_0_0_ok 3 rfl)))
  (e_Lok (sm_iastore (x_dk dn_112_0_0_ok 4 rfl))))
  (e_Tok2
  (e_Lok (ld_aload_n_0 (x_dk dn_112_0_0_ok 5 rfl)))
  (e_Lok (lk_7_31g ho_112 (x_dk dn_112_0_0_ok 6 rfl))))))
  (e_Tok2
  (e_Tok2
  (e_Tok2
  (e_Lok (ld_iload_n_2 (x_dk dn_112_0_0_ok 7 rfl)))
  (e_Lok (ld_iload_n_3 (x_dk dn_112_0_0_ok 8 rfl))))
  (e_Tok2
  (e_Lok (e_st (I := eI) (er_bastore (x_dk dn_112_0_0_ok 9 rfl)) nx_ast))
  (e_Lok (ld_aload_n_0 (x_dk dn_112_0_0_ok 10 rfl)))))
  (e_Tok2
  (e_Tok2
  (e_Lok (lk_7_43 ho_112 (x_dk dn_112_0_0_ok 11 rfl)))
  (e_Lok (ld_aload_n_0 (x_dk dn_112_0_0_ok 12 rfl))))
  (e_Tok2
  (e_Lok (lk_7_49 ho_112 (x_dk dn_112_0_0_ok 13 rfl)))
  (e_Lok (e_rt (I := eI) (k := 0) ⟨(x_dk dn_112_0_0_ok 14 rfl), rfl⟩))))))
def te_112 : Nat → eE := te_112_0
theorem te_112_ok : ∀ pc, e_EOq eft cls elay eI n_112 pc (te_112 pc) := te_112_0_ok
theorem ho_113 : (xm_y n_113).cls = "RobotCellHouse$Points" := rfl
def dn_113_0_0 : List (Nat × Instr × Nat) := [(0, .aload_n 0, 1), (1, .getfield 9, 3), (4, .iload_n 1, 1), (5, .iaload, 1), (6, .istore_n 3, 1), (7, .aload_n 0, 1), (8, .getfield 9, 3), (11, .iload_n 1, 1), (12, .iload_n 2, 1), (13, .iastore, 1), (14, .aload_n 0, 1), (15, .iload_n 1, 1), (16, .invokevirtual 52, 3), (19, .aload_n 0, 1), (20, .getfield 15, 3), (23, .iload_n 1, 1), (24, .iaload, 1), (25, .if_icmp .eq 7, 3), (28, .aload_n 0, 1), (29, .invokevirtual 46, 3), (32, .iload_n 3, 1), (33, .ireturn, 1)]
set_option maxRecDepth 20000 in
theorem dn_113_0_0_ok : dn_113_0_0.all (fun q => decide (decode (xm_b n_113) q.1 = .ok (q.2.1, q.2.2))) = true := xa_g_ok (by decide +kernel)
def te_113_0 : Nat → eE := (e_T 14 (e_T 6 (e_T 1 (e_T 0 (e_L 0 (0, ei_load 0 2 1, 0, 0)) (e_L 1 (0, ei_getf eft elay 7 0 4, 0, 0))) (e_T 4 (e_L 4 (0, ei_load 1 0 5, 0, 0)) (e_T 5 (e_L 5 (0, ei_ald elay false 6, 0, 0)) (e_L 6 (0, ei_stor 3 0 7, 0, 0))))) (e_T 11 (e_T 7 (e_L 7 (0, ei_load 0 2 8, 0, 0)) (e_T 8 (e_L 8 (0, ei_getf eft elay 7 0 11, 0, 0)) (e_L 11 (0, ei_load 1 0 12, 0, 0)))) (e_T 12 (e_L 12 (0, ei_load 2 0 13, 0, 0)) (e_T 13 (e_L 13 (0, ei_ast elay false 14, 0, 0)) (e_L 14 (0, ei_load 0 2 15, 0, 0)))))) (e_T 23 (e_T 16 (e_T 15 (e_L 15 (0, ei_load 1 0 16, 0, 0)) (e_L 16 (2, e_nof, 117, 2))) (e_T 19 (e_L 19 (0, ei_load 0 2 20, 0, 0)) (e_T 20 (e_L 20 (0, ei_getf eft elay 7 1 23, 0, 0)) (e_L 23 (0, ei_load 1 0 24, 0, 0))))) (e_T 28 (e_T 24 (e_L 24 (0, ei_ald elay false 25, 0, 0)) (e_T 25 (e_L 25 (0, ei_if2 0 32 28, 0, 0)) (e_L 28 (0, ei_load 0 2 29, 0, 0)))) (e_T 29 (e_L 29 (2, e_nof, 116, 1)) (e_T 32 (e_L 32 (0, ei_load 3 0 33, 0, 0)) (e_L 33 (1, e_nof, 1, 0)))))))
set_option maxRecDepth 20000 in
set_option maxHeartbeats 4000000 in
theorem te_113_0_ok : ∀ pc, e_EOq eft cls elay eI n_113 pc (te_113_0 pc) :=
  (e_Tok2
  (e_Tok2
  (e_Tok2
  (e_Tok2
  (e_Lok (ld_aload_n_0 (x_dk dn_113_0_0_ok 0 rfl)))
  (e_Lok (lk_7_9g ho_113 (x_dk dn_113_0_0_ok 1 rfl))))
  (e_Tok2
  (e_Lok (ld_iload_n_1 (x_dk dn_113_0_0_ok 2 rfl)))
  (e_Tok2
  (e_Lok (sm_iaload (x_dk dn_113_0_0_ok 3 rfl)))
  (e_Lok (e_st (I := eI) (er_istore_n (i := 3) (x_dk dn_113_0_0_ok 4 rfl) (by decide +kernel)) nx_stor)))))
  (e_Tok2
  (e_Tok2
  (e_Lok (ld_aload_n_0 (x_dk dn_113_0_0_ok 5 rfl)))
  (e_Tok2
  (e_Lok (lk_7_9g ho_113 (x_dk dn_113_0_0_ok 6 rfl)))
  (e_Lok (ld_iload_n_1 (x_dk dn_113_0_0_ok 7 rfl)))))
  (e_Tok2
  (e_Lok (ld_iload_n_2 (x_dk dn_113_0_0_ok 8 rfl)))
  (e_Tok2
  (e_Lok (sm_iastore (x_dk dn_113_0_0_ok 9 rfl)))
  (e_Lok (ld_aload_n_0 (x_dk dn_113_0_0_ok 10 rfl)))))))
  (e_Tok2
  (e_Tok2
  (e_Tok2
  (e_Lok (ld_iload_n_1 (x_dk dn_113_0_0_ok 11 rfl)))
  (e_Lok (lk_7_52 ho_113 (x_dk dn_113_0_0_ok 12 rfl))))
  (e_Tok2
  (e_Lok (ld_aload_n_0 (x_dk dn_113_0_0_ok 13 rfl)))
  (e_Tok2
  (e_Lok (lk_7_15g ho_113 (x_dk dn_113_0_0_ok 14 rfl)))
  (e_Lok (ld_iload_n_1 (x_dk dn_113_0_0_ok 15 rfl))))))
  (e_Tok2
  (e_Tok2
  (e_Lok (sm_iaload (x_dk dn_113_0_0_ok 16 rfl)))
  (e_Tok2
  (e_Lok (e_st (I := eI) (er_icmpeq (off := 7) (tg := 32) (x_dk dn_113_0_0_ok 17 rfl) (by decide)) nx_if2))
  (e_Lok (ld_aload_n_0 (x_dk dn_113_0_0_ok 18 rfl)))))
  (e_Tok2
  (e_Lok (lk_7_46 ho_113 (x_dk dn_113_0_0_ok 19 rfl)))
  (e_Tok2
  (e_Lok (ld_iload_n_3 (x_dk dn_113_0_0_ok 20 rfl)))
  (e_Lok (e_rt (I := eI) (k := 1) ⟨(x_dk dn_113_0_0_ok 21 rfl), rfl⟩)))))))
def te_113 : Nat → eE := te_113_0
theorem te_113_ok : ∀ pc, e_EOq eft cls elay eI n_113 pc (te_113 pc) := te_113_0_ok
theorem ho_114 : (xm_y n_114).cls = "RobotCellHouse$Points" := rfl
def dn_114_0_0 : List (Nat × Instr × Nat) := [(0, .aload_n 0, 1), (1, .getfield 27, 3), (4, .iload_n 1, 1), (5, .baload, 1), (6, .ifCond .eq 7, 3), (9, .iconst 1, 1), (10, .goto 4, 3), (13, .iconst 0, 1), (14, .istore 4, 2), (16, .aload_n 0, 1), (17, .getfield 27, 3), (20, .iload_n 1, 1), (21, .iload_n 3, 1), (22, .bastore, 1), (23, .aload_n 0, 1), (24, .getfield 21, 3), (27, .iload_n 1, 1), (28, .iload_n 2, 1), (29, .iastore, 1), (30, .aload_n 0, 1), (31, .iload_n 1, 1), (32, .invokevirtual 52, 3), (35, .aload_n 0, 1), (36, .getfield 15, 3), (39, .iload_n 1, 1)]
set_option maxRecDepth 20000 in
theorem dn_114_0_0_ok : dn_114_0_0.all (fun q => decide (decode (xm_b n_114) q.1 = .ok (q.2.1, q.2.2))) = true := xa_g_ok (by decide +kernel)
def dn_114_0_1 : List (Nat × Instr × Nat) := [(40, .iaload, 1), (41, .if_icmp .eq 7, 3), (44, .aload_n 0, 1), (45, .invokevirtual 46, 3), (48, .iload 4, 2), (50, .ireturn, 1)]
set_option maxRecDepth 20000 in
theorem dn_114_0_1_ok : dn_114_0_1.all (fun q => decide (decode (xm_b n_114) q.1 = .ok (q.2.1, q.2.2))) = true := xa_g_ok (by decide +kernel)
def te_114_0 : Nat → eE := (e_T 23 (e_T 10 (e_T 4 (e_T 0 (e_L 0 (0, ei_load 0 2 1, 0, 0)) (e_T 1 (e_L 1 (0, ei_getf eft elay 7 5 4, 0, 0)) (e_L 4 (0, ei_load 1 0 5, 0, 0)))) (e_T 6 (e_T 5 (e_L 5 (0, ei_ald elay true 6, 0, 0)) (e_L 6 (0, ei_if1 0 13 9, 0, 0))) (e_T 9 (e_L 9 (0, ei_push (0, 1) 10, 0, 0)) (e_L 10 (0, ei_goto 14, 0, 0))))) (e_T 17 (e_T 14 (e_T 13 (e_L 13 (0, ei_push (0, 0) 14, 0, 0)) (e_L 14 (0, ei_stor 4 0 16, 0, 0))) (e_T 16 (e_L 16 (0, ei_load 0 2 17, 0, 0)) (e_L 17 (0, ei_getf eft elay 7 5 20, 0, 0)))) (e_T 21 (e_T 20 (e_L 20 (0, ei_load 1 0 21, 0, 0)) (e_L 21 (0, ei_load 3 0 22, 0, 0))) (e_T 22 (e_L 22 (0, ei_ast elay true 23, 0, 0)) (e_L 23 (0, ei_load 0 2 24, 0, 0)))))) (e_T 35 (e_T 29 (e_T 27 (e_T 24 (e_L 24 (0, ei_getf eft elay 7 3 27, 0, 0)) (e_L 27 (0, ei_load 1 0 28, 0, 0))) (e_T 28 (e_L 28 (0, ei_load 2 0 29, 0, 0)) (e_L 29 (0, ei_ast elay false 30, 0, 0)))) (e_T 31 (e_T 30 (e_L 30 (0, ei_load 0 2 31, 0, 0)) (e_L 31 (0, ei_load 1 0 32, 0, 0))) (e_T 32 (e_L 32 (2, e_nof, 117, 2)) (e_L 35 (0, ei_load 0 2 36, 0, 0))))) (e_T 41 (e_T 39 (e_T 36 (e_L 36 (0, ei_getf eft elay 7 1 39, 0, 0)) (e_L 39 (0, ei_load 1 0 40, 0, 0))) (e_T 40 (e_L 40 (0, ei_ald elay false 41, 0, 0)) (e_L 41 (0, ei_if2 0 48 44, 0, 0)))) (e_T 45 (e_T 44 (e_L 44 (0, ei_load 0 2 45, 0, 0)) (e_L 45 (2, e_nof, 116, 1))) (e_T 48 (e_L 48 (0, ei_load 4 0 50, 0, 0)) (e_L 50 (1, e_nof, 1, 0)))))))
set_option maxRecDepth 20000 in
set_option maxHeartbeats 4000000 in
theorem te_114_0_ok : ∀ pc, e_EOq eft cls elay eI n_114 pc (te_114_0 pc) :=
  (e_Tok2
  (e_Tok2
  (e_Tok2
  (e_Tok2
  (e_Lok (ld_aload_n_0 (x_dk dn_114_0_0_ok 0 rfl)))
  (e_Tok2
  (e_Lok (lk_7_27g ho_114 (x_dk dn_114_0_0_ok 1 rfl)))
  (e_Lok (ld_iload_n_1 (x_dk dn_114_0_0_ok 2 rfl)))))
  (e_Tok2
  (e_Tok2
  (e_Lok (e_st (I := eI) (er_baload (x_dk dn_114_0_0_ok 3 rfl)) nx_ald))
  (e_Lok (e_st (I := eI) (er_ifeq (off := 7) (tg := 13) (x_dk dn_114_0_0_ok 4 rfl) (by decide)) nx_if1)))
  (e_Tok2
  (e_Lok (ps_iconst_1 (x_dk dn_114_0_0_ok 5 rfl)))
  (e_Lok (e_st (I := eI) (er_goto (off := 4) (tg := 14) (x_dk dn_114_0_0_ok 6 rfl) (by decide)) nx_goto)))))
  (e_Tok2
  (e_Tok2
  (e_Tok2
  (e_Lok (ps_iconst_0 (x_dk dn_114_0_0_ok 7 rfl)))
  (e_Lok (e_st (I := eI) (er_istore (i := 4) (x_dk dn_114_0_0_ok 8 rfl) (by decide +kernel)) nx_stor)))
  (e_Tok2
  (e_Lok (ld_aload_n_0 (x_dk dn_114_0_0_ok 9 rfl)))
  (e_Lok (lk_7_27g ho_114 (x_dk dn_114_0_0_ok 10 rfl)))))
  (e_Tok2
  (e_Tok2
  (e_Lok (ld_iload_n_1 (x_dk dn_114_0_0_ok 11 rfl)))
  (e_Lok (ld_iload_n_3 (x_dk dn_114_0_0_ok 12 rfl))))
  (e_Tok2
  (e_Lok (e_st (I := eI) (er_bastore (x_dk dn_114_0_0_ok 13 rfl)) nx_ast))
  (e_Lok (ld_aload_n_0 (x_dk dn_114_0_0_ok 14 rfl)))))))
  (e_Tok2
  (e_Tok2
  (e_Tok2
  (e_Tok2
  (e_Lok (lk_7_21g ho_114 (x_dk dn_114_0_0_ok 15 rfl)))
  (e_Lok (ld_iload_n_1 (x_dk dn_114_0_0_ok 16 rfl))))
  (e_Tok2
  (e_Lok (ld_iload_n_2 (x_dk dn_114_0_0_ok 17 rfl)))
  (e_Lok (sm_iastore (x_dk dn_114_0_0_ok 18 rfl)))))
  (e_Tok2
  (e_Tok2
  (e_Lok (ld_aload_n_0 (x_dk dn_114_0_0_ok 19 rfl)))
  (e_Lok (ld_iload_n_1 (x_dk dn_114_0_0_ok 20 rfl))))
  (e_Tok2
  (e_Lok (lk_7_52 ho_114 (x_dk dn_114_0_0_ok 21 rfl)))
  (e_Lok (ld_aload_n_0 (x_dk dn_114_0_0_ok 22 rfl))))))
  (e_Tok2
  (e_Tok2
  (e_Tok2
  (e_Lok (lk_7_15g ho_114 (x_dk dn_114_0_0_ok 23 rfl)))
  (e_Lok (ld_iload_n_1 (x_dk dn_114_0_0_ok 24 rfl))))
  (e_Tok2
  (e_Lok (sm_iaload (x_dk dn_114_0_1_ok 0 rfl)))
  (e_Lok (e_st (I := eI) (er_icmpeq (off := 7) (tg := 48) (x_dk dn_114_0_1_ok 1 rfl) (by decide)) nx_if2))))
  (e_Tok2
  (e_Tok2
  (e_Lok (ld_aload_n_0 (x_dk dn_114_0_1_ok 2 rfl)))
  (e_Lok (lk_7_46 ho_114 (x_dk dn_114_0_1_ok 3 rfl))))
  (e_Tok2
  (e_Lok (ld_iload_4 (x_dk dn_114_0_1_ok 4 rfl)))
  (e_Lok (e_rt (I := eI) (k := 1) ⟨(x_dk dn_114_0_1_ok 5 rfl), rfl⟩)))))))
def te_114 : Nat → eE := te_114_0
theorem te_114_ok : ∀ pc, e_EOq eft cls elay eI n_114 pc (te_114 pc) := te_114_0_ok
theorem ho_115 : (xm_y n_115).cls = "RobotCellHouse$Points" := rfl
def dn_115_0_0 : List (Nat × Instr × Nat) := [(0, .iconst 0, 1), (1, .istore_n 1, 1), (2, .iconst 0, 1), (3, .istore_n 2, 1), (4, .iload_n 2, 1), (5, .bipush 64, 2), (7, .if_icmp .ge 28, 3), (10, .aload_n 0, 1), (11, .getfield 24, 3), (14, .iload_n 2, 1), (15, .iaload, 1), (16, .ifCond .ge 13, 3), (19, .aload_n 0, 1), (20, .getfield 34, 3), (23, .iload_n 1, 1), (24, .iload_n 2, 1), (25, .iastore, 1), (26, .iinc 1 1, 3), (29, .iinc 2 1, 3), (32, .goto (-28), 3), (35, .iconst 0, 1), (36, .istore_n 2, 1), (37, .iload_n 2, 1), (38, .iload_n 1, 1), (39, .if_icmp .ge 60, 3)]
set_option maxRecDepth 20000 in
theorem dn_115_0_0_ok : dn_115_0_0.all (fun q => decide (decode (xm_b n_115) q.1 = .ok (q.2.1, q.2.2))) = true := xa_g_ok (by decide +kernel)
def dn_115_0_1 : List (Nat × Instr × Nat) := [(42, .iload_n 1, 1), (43, .bipush 64, 2), (45, .if_icmp .ge 54, 3), (48, .iconst 0, 1), (49, .istore_n 3, 1), (50, .iload_n 3, 1), (51, .bipush 64, 2), (53, .if_icmp .ge 40, 3), (56, .aload_n 0, 1), (57, .getfield 24, 3), (60, .iload_n 3, 1), (61, .iaload, 1), (62, .aload_n 0, 1), (63, .getfield 34, 3), (66, .iload_n 2, 1), (67, .iaload, 1), (68, .if_icmp .ne 19, 3), (71, .iload_n 1, 1), (72, .bipush 64, 2), (74, .if_icmp .ge 13, 3), (77, .aload_n 0, 1), (78, .getfield 34, 3), (81, .iload_n 1, 1), (82, .iload_n 3, 1), (83, .iastore, 1)]
set_option maxRecDepth 20000 in
theorem dn_115_0_1_ok : dn_115_0_1.all (fun q => decide (decode (xm_b n_115) q.1 = .ok (q.2.1, q.2.2))) = true := xa_g_ok (by decide +kernel)
def dn_115_0_2 : List (Nat × Instr × Nat) := [(84, .iinc 1 1, 3), (87, .iinc 3 1, 3), (90, .goto (-40), 3), (93, .iinc 2 1, 3), (96, .goto (-59), 3), (99, .return_, 1)]
set_option maxRecDepth 20000 in
theorem dn_115_0_2_ok : dn_115_0_2.all (fun q => decide (decode (xm_b n_115) q.1 = .ok (q.2.1, q.2.2))) = true := xa_g_ok (by decide +kernel)
def te_115_0 : Nat → eE := (e_T 20 (e_T 7 (e_T 2 (e_T 0 (e_L 0 (0, ei_push (0, 0) 1, 0, 0)) (e_T 1 (e_L 1 (0, ei_stor 1 0 2, 0, 0)) (e_L 2 (0, ei_push (0, 0) 3, 0, 0)))) (e_T 4 (e_T 3 (e_L 3 (0, ei_stor 2 0 4, 0, 0)) (e_L 4 (0, ei_load 2 0 5, 0, 0))) (e_T 5 (e_L 5 (0, ei_push (0, 64) 7, 0, 0)) (e_L 7 (0, ei_if2 3 35 10, 0, 0))))) (e_T 14 (e_T 10 (e_L 10 (0, ei_load 0 2 11, 0, 0)) (e_T 11 (e_L 11 (0, ei_getf eft elay 7 4 14, 0, 0)) (e_L 14 (0, ei_load 2 0 15, 0, 0)))) (e_T 16 (e_T 15 (e_L 15 (0, ei_ald elay false 16, 0, 0)) (e_L 16 (0, ei_if1 3 29 19, 0, 0))) (e_T 19 (e_L 19 (0, ei_load 0 2 20, 0, 0)) (e_L 20 (0, ei_getf eft elay 7 7 23, 0, 0)))))) (e_T 35 (e_T 25 (e_T 23 (e_L 23 (0, ei_load 1 0 24, 0, 0)) (e_T 24 (e_L 24 (0, ei_load 2 0 25, 0, 0)) (e_L 25 (0, ei_ast elay false 26, 0, 0)))) (e_T 29 (e_T 26 (e_L 26 (0, ei_inc 1 1 29, 0, 0)) (e_L 29 (0, ei_inc 2 1 32, 0, 0))) (e_T 32 (e_L 32 (0, ei_goto 4, 0, 0)) (e_L 35 (0, ei_push (0, 0) 36, 0, 0))))) (e_T 38 (e_T 36 (e_L 36 (0, ei_stor 2 0 37, 0, 0)) (e_T 37 (e_L 37 (0, ei_load 2 0 38, 0, 0)) (e_L 38 (0, ei_load 1 0 39, 0, 0)))) (e_T 42 (e_T 39 (e_L 39 (0, ei_if2 3 99 42, 0, 0)) (e_L 42 (0, ei_load 1 0 43, 0, 0))) (e_T 43 (e_L 43 (0, ei_push (0, 64) 45, 0, 0)) (e_L 45 (0, ei_if2 3 99 48, 0, 0)))))))
set_option maxRecDepth 20000 in
set_option maxHeartbeats 4000000 in
theorem te_115_0_ok : ∀ pc, e_EOq eft cls elay eI n_115 pc (te_115_0 pc) :=
  (e_Tok2
  (e_Tok2
  (e_Tok2
  (e_Tok2
  (e_Lok (ps_iconst_0 (x_dk dn_115_0_0_ok 0 rfl)))
  (e_Tok2
  (e_Lok (e_st (I := eI) (er_istore_n (i := 1) (x_dk dn_115_0_0_ok 1 rfl) (by decide +kernel)) nx_stor))
  (e_Lok (ps_iconst_0 (x_dk dn_115_0_0_ok 2 rfl)))))
  (e_Tok2
  (e_Tok2
  (e_Lok (e_st (I := eI) (er_istore_n (i := 2) (x_dk dn_115_0_0_ok 3 rfl) (by decide +kernel)) nx_stor))
  (e_Lok (ld_iload_n_2 (x_dk dn_115_0_0_ok 4 rfl))))
  (e_Tok2
  (e_Lok (ps_bipush_64 (x_dk dn_115_0_0_ok 5 rfl)))
  (e_Lok (e_st (I := eI) (er_icmpge (off := 28) (tg := 35) (x_dk dn_115_0_0_ok 6 rfl) (by decide)) nx_if2)))))
  (e_Tok2
  (e_Tok2
  (e_Lok (ld_aload_n_0 (x_dk dn_115_0_0_ok 7 rfl)))
  (e_Tok2
  (e_Lok (lk_7_24g ho_115 (x_dk dn_115_0_0_ok 8 rfl)))
  (e_Lok (ld_iload_n_2 (x_dk dn_115_0_0_ok 9 rfl)))))
  (e_Tok2
  (e_Tok2
  (e_Lok (sm_iaload (x_dk dn_115_0_0_ok 10 rfl)))
  (e_Lok (e_st (I := eI) (er_ifge (off := 13) (tg := 29) (x_dk dn_115_0_0_ok 11 rfl) (by decide)) nx_if1)))
  (e_Tok2
  (e_Lok (ld_aload_n_0 (x_dk dn_115_0_0_ok 12 rfl)))
  (e_Lok (lk_7_34g ho_115 (x_dk dn_115_0_0_ok 13 rfl)))))))
  (e_Tok2
  (e_Tok2
  (e_Tok2
  (e_Lok (ld_iload_n_1 (x_dk dn_115_0_0_ok 14 rfl)))
  (e_Tok2
  (e_Lok (ld_iload_n_2 (x_dk dn_115_0_0_ok 15 rfl)))
  (e_Lok (sm_iastore (x_dk dn_115_0_0_ok 16 rfl)))))
  (e_Tok2
  (e_Tok2
  (e_Lok (e_st (I := eI) (er_iinc (i := 1) (n := 1) (x_dk dn_115_0_0_ok 17 rfl) (by decide +kernel) (by decide)) nx_inc))
  (e_Lok (e_st (I := eI) (er_iinc (i := 2) (n := 1) (x_dk dn_115_0_0_ok 18 rfl) (by decide +kernel) (by decide)) nx_inc)))
  (e_Tok2
  (e_Lok (e_st (I := eI) (er_goto (off := (-28)) (tg := 4) (x_dk dn_115_0_0_ok 19 rfl) (by decide)) nx_goto))
  (e_Lok (ps_iconst_0 (x_dk dn_115_0_0_ok 20 rfl))))))
  (e_Tok2
  (e_Tok2
  (e_Lok (e_st (I := eI) (er_istore_n (i := 2) (x_dk dn_115_0_0_ok 21 rfl) (by decide +kernel)) nx_stor))
  (e_Tok2
  (e_Lok (ld_iload_n_2 (x_dk dn_115_0_0_ok 22 rfl)))
  (e_Lok (ld_iload_n_1 (x_dk dn_115_0_0_ok 23 rfl)))))
  (e_Tok2
  (e_Tok2
  (e_Lok (e_st (I := eI) (er_icmpge (off := 60) (tg := 99) (x_dk dn_115_0_0_ok 24 rfl) (by decide)) nx_if2))
  (e_Lok (ld_iload_n_1 (x_dk dn_115_0_1_ok 0 rfl))))
  (e_Tok2
  (e_Lok (ps_bipush_64 (x_dk dn_115_0_1_ok 1 rfl)))
  (e_Lok (e_st (I := eI) (er_icmpge (off := 54) (tg := 99) (x_dk dn_115_0_1_ok 2 rfl) (by decide)) nx_if2)))))))
def te_115_28 : Nat → eE := (e_T 68 (e_T 57 (e_T 50 (e_T 48 (e_L 48 (0, ei_push (0, 0) 49, 0, 0)) (e_T 49 (e_L 49 (0, ei_stor 3 0 50, 0, 0)) (e_L 50 (0, ei_load 3 0 51, 0, 0)))) (e_T 53 (e_T 51 (e_L 51 (0, ei_push (0, 64) 53, 0, 0)) (e_L 53 (0, ei_if2 3 93 56, 0, 0))) (e_T 56 (e_L 56 (0, ei_load 0 2 57, 0, 0)) (e_L 57 (0, ei_getf eft elay 7 4 60, 0, 0))))) (e_T 62 (e_T 60 (e_L 60 (0, ei_load 3 0 61, 0, 0)) (e_T 61 (e_L 61 (0, ei_ald elay false 62, 0, 0)) (e_L 62 (0, ei_load 0 2 63, 0, 0)))) (e_T 66 (e_T 63 (e_L 63 (0, ei_getf eft elay 7 7 66, 0, 0)) (e_L 66 (0, ei_load 2 0 67, 0, 0))) (e_T 67 (e_L 67 (0, ei_ald elay false 68, 0, 0)) (e_L 68 (0, ei_if2 1 87 71, 0, 0)))))) (e_T 82 (e_T 74 (e_T 71 (e_L 71 (0, ei_load 1 0 72, 0, 0)) (e_T 72 (e_L 72 (0, ei_push (0, 64) 74, 0, 0)) (e_L 74 (0, ei_if2 3 87 77, 0, 0)))) (e_T 78 (e_T 77 (e_L 77 (0, ei_load 0 2 78, 0, 0)) (e_L 78 (0, ei_getf eft elay 7 7 81, 0, 0))) (e_T 81 (e_L 81 (0, ei_load 1 0 82, 0, 0)) (e_L 82 (0, ei_load 3 0 83, 0, 0))))) (e_T 87 (e_T 83 (e_L 83 (0, ei_ast elay false 84, 0, 0)) (e_T 84 (e_L 84 (0, ei_inc 1 1 87, 0, 0)) (e_L 87 (0, ei_inc 3 1 90, 0, 0)))) (e_T 93 (e_T 90 (e_L 90 (0, ei_goto 50, 0, 0)) (e_L 93 (0, ei_inc 2 1 96, 0, 0))) (e_T 96 (e_L 96 (0, ei_goto 37, 0, 0)) (e_L 99 (1, e_nof, 0, 0)))))))
set_option maxRecDepth 20000 in
set_option maxHeartbeats 4000000 in
theorem te_115_28_ok : ∀ pc, e_EOq eft cls elay eI n_115 pc (te_115_28 pc) :=
  (e_Tok2
  (e_Tok2
  (e_Tok2
  (e_Tok2
  (e_Lok (ps_iconst_0 (x_dk dn_115_0_1_ok 3 rfl)))
  (e_Tok2
  (e_Lok (e_st (I := eI) (er_istore_n (i := 3) (x_dk dn_115_0_1_ok 4 rfl) (by decide +kernel)) nx_stor))
  (e_Lok (ld_iload_n_3 (x_dk dn_115_0_1_ok 5 rfl)))))
  (e_Tok2
  (e_Tok2
  (e_Lok (ps_bipush_64 (x_dk dn_115_0_1_ok 6 rfl)))
  (e_Lok (e_st (I := eI) (er_icmpge (off := 40) (tg := 93) (x_dk dn_115_0_1_ok 7 rfl) (by decide)) nx_if2)))
  (e_Tok2
  (e_Lok (ld_aload_n_0 (x_dk dn_115_0_1_ok 8 rfl)))
  (e_Lok (lk_7_24g ho_115 (x_dk dn_115_0_1_ok 9 rfl))))))
  (e_Tok2
  (e_Tok2
  (e_Lok (ld_iload_n_3 (x_dk dn_115_0_1_ok 10 rfl)))
  (e_Tok2
  (e_Lok (sm_iaload (x_dk dn_115_0_1_ok 11 rfl)))
  (e_Lok (ld_aload_n_0 (x_dk dn_115_0_1_ok 12 rfl)))))
  (e_Tok2
  (e_Tok2
  (e_Lok (lk_7_34g ho_115 (x_dk dn_115_0_1_ok 13 rfl)))
  (e_Lok (ld_iload_n_2 (x_dk dn_115_0_1_ok 14 rfl))))
  (e_Tok2
  (e_Lok (sm_iaload (x_dk dn_115_0_1_ok 15 rfl)))
  (e_Lok (e_st (I := eI) (er_icmpne (off := 19) (tg := 87) (x_dk dn_115_0_1_ok 16 rfl) (by decide)) nx_if2))))))
  (e_Tok2
  (e_Tok2
  (e_Tok2
  (e_Lok (ld_iload_n_1 (x_dk dn_115_0_1_ok 17 rfl)))
  (e_Tok2
  (e_Lok (ps_bipush_64 (x_dk dn_115_0_1_ok 18 rfl)))
  (e_Lok (e_st (I := eI) (er_icmpge (off := 13) (tg := 87) (x_dk dn_115_0_1_ok 19 rfl) (by decide)) nx_if2))))
  (e_Tok2
  (e_Tok2
  (e_Lok (ld_aload_n_0 (x_dk dn_115_0_1_ok 20 rfl)))
  (e_Lok (lk_7_34g ho_115 (x_dk dn_115_0_1_ok 21 rfl))))
  (e_Tok2
  (e_Lok (ld_iload_n_1 (x_dk dn_115_0_1_ok 22 rfl)))
  (e_Lok (ld_iload_n_3 (x_dk dn_115_0_1_ok 23 rfl))))))
  (e_Tok2
  (e_Tok2
  (e_Lok (sm_iastore (x_dk dn_115_0_1_ok 24 rfl)))
  (e_Tok2
  (e_Lok (e_st (I := eI) (er_iinc (i := 1) (n := 1) (x_dk dn_115_0_2_ok 0 rfl) (by decide +kernel) (by decide)) nx_inc))
  (e_Lok (e_st (I := eI) (er_iinc (i := 3) (n := 1) (x_dk dn_115_0_2_ok 1 rfl) (by decide +kernel) (by decide)) nx_inc))))
  (e_Tok2
  (e_Tok2
  (e_Lok (e_st (I := eI) (er_goto (off := (-40)) (tg := 50) (x_dk dn_115_0_2_ok 2 rfl) (by decide)) nx_goto))
  (e_Lok (e_st (I := eI) (er_iinc (i := 2) (n := 1) (x_dk dn_115_0_2_ok 3 rfl) (by decide +kernel) (by decide)) nx_inc)))
  (e_Tok2
  (e_Lok (e_st (I := eI) (er_goto (off := (-59)) (tg := 37) (x_dk dn_115_0_2_ok 4 rfl) (by decide)) nx_goto))
  (e_Lok (e_rt (I := eI) (k := 0) ⟨(x_dk dn_115_0_2_ok 5 rfl), rfl⟩)))))))
def te_115 : Nat → eE := (e_T 45 te_115_0 te_115_28)
theorem te_115_ok : ∀ pc, e_EOq eft cls elay eI n_115 pc (te_115 pc) := (e_Tok2 (te_115_0_ok) (te_115_28_ok))
theorem ho_116 : (xm_y n_116).cls = "RobotCellHouse$Points" := rfl
def dn_116_0_0 : List (Nat × Instr × Nat) := [(0, .iconst 0, 1), (1, .istore_n 1, 1), (2, .iload_n 1, 1), (3, .bipush 64, 2), (5, .if_icmp .ge 52, 3), (8, .aload_n 0, 1), (9, .getfield 34, 3), (12, .iload_n 1, 1), (13, .iaload, 1), (14, .istore_n 2, 1), (15, .aload_n 0, 1), (16, .iload_n 2, 1), (17, .invokevirtual 52, 3), (20, .istore_n 3, 1), (21, .aload_n 0, 1), (22, .getfield 15, 3), (25, .iload_n 2, 1), (26, .iaload, 1), (27, .ifCond .ne 17, 3), (30, .iload_n 3, 1), (31, .ifCond .eq 13, 3), (34, .aload_n 0, 1), (35, .getfield 18, 3), (38, .iload_n 2, 1), (39, .dup2, 1)]
set_option maxRecDepth 20000 in
theorem dn_116_0_0_ok : dn_116_0_0.all (fun q => decide (decode (xm_b n_116) q.1 = .ok (q.2.1, q.2.2))) = true := xa_g_ok (by decide +kernel)
def dn_116_0_1 : List (Nat × Instr × Nat) := [(40, .iaload, 1), (41, .iconst 1, 1), (42, .iadd, 1), (43, .iastore, 1), (44, .aload_n 0, 1), (45, .getfield 15, 3), (48, .iload_n 2, 1), (49, .iload_n 3, 1), (50, .iastore, 1), (51, .iinc 1 1, 3), (54, .goto (-52), 3), (57, .return_, 1)]
set_option maxRecDepth 20000 in
theorem dn_116_0_1_ok : dn_116_0_1.all (fun q => decide (decode (xm_b n_116) q.1 = .ok (q.2.1, q.2.2))) = true := xa_g_ok (by decide +kernel)
def te_116_0 : Nat → eE := (e_T 26 (e_T 13 (e_T 3 (e_T 1 (e_T 0 (e_L 0 (0, ei_push (0, 0) 1, 0, 0)) (e_L 1 (0, ei_stor 1 0 2, 0, 0))) (e_T 2 (e_L 2 (0, ei_load 1 0 3, 0, 0)) (e_L 3 (0, ei_push (0, 64) 5, 0, 0)))) (e_T 8 (e_T 5 (e_L 5 (0, ei_if2 3 57 8, 0, 0)) (e_L 8 (0, ei_load 0 2 9, 0, 0))) (e_T 9 (e_L 9 (0, ei_getf eft elay 7 7 12, 0, 0)) (e_T 12 (e_L 12 (0, ei_load 1 0 13, 0, 0)) (e_L 13 (0, ei_ald elay false 14, 0, 0)))))) (e_T 17 (e_T 15 (e_T 14 (e_L 14 (0, ei_stor 2 0 15, 0, 0)) (e_L 15 (0, ei_load 0 2 16, 0, 0))) (e_T 16 (e_L 16 (0, ei_load 2 0 17, 0, 0)) (e_L 17 (2, e_nof, 117, 2)))) (e_T 21 (e_T 20 (e_L 20 (0, ei_stor 3 0 21, 0, 0)) (e_L 21 (0, ei_load 0 2 22, 0, 0))) (e_T 22 (e_L 22 (0, ei_getf eft elay 7 1 25, 0, 0)) (e_T 25 (e_L 25 (0, ei_load 2 0 26, 0, 0)) (e_L 26 (0, ei_ald elay false 27, 0, 0))))))) (e_T 41 (e_T 34 (e_T 30 (e_T 27 (e_L 27 (0, ei_if1 1 44 30, 0, 0)) (e_L 30 (0, ei_load 3 0 31, 0, 0))) (e_T 31 (e_L 31 (0, ei_if1 0 44 34, 0, 0)) (e_L 34 (0, ei_load 0 2 35, 0, 0)))) (e_T 38 (e_T 35 (e_L 35 (0, ei_getf eft elay 7 2 38, 0, 0)) (e_L 38 (0, ei_load 2 0 39, 0, 0))) (e_T 39 (e_L 39 (0, ei_stk ef_dup2 40, 0, 0)) (e_T 40 (e_L 40 (0, ei_ald elay false 41, 0, 0)) (e_L 41 (0, ei_push (0, 1) 42, 0, 0)))))) (e_T 48 (e_T 43 (e_T 42 (e_L 42 (0, ei_bin eF_add 43, 0, 0)) (e_L 43 (0, ei_ast elay false 44, 0, 0))) (e_T 44 (e_L 44 (0, ei_load 0 2 45, 0, 0)) (e_T 45 (e_L 45 (0, ei_getf eft elay 7 1 48, 0, 0)) (e_L 48 (0, ei_load 2 0 49, 0, 0))))) (e_T 50 (e_T 49 (e_L 49 (0, ei_load 3 0 50, 0, 0)) (e_L 50 (0, ei_ast elay false 51, 0, 0))) (e_T 51 (e_L 51 (0, ei_inc 1 1 54, 0, 0)) (e_T 54 (e_L 54 (0, ei_goto 2, 0, 0)) (e_L 57 (1, e_nof, 0, 0))))))))
set_option maxRecDepth 20000 in
set_option maxHeartbeats 4000000 in
theorem te_116_0_ok : ∀ pc, e_EOq eft cls elay eI n_116 pc (te_116_0 pc) :=
  (e_Tok2
  (e_Tok2
  (e_Tok2
  (e_Tok2
  (e_Tok2
  (e_Lok (ps_iconst_0 (x_dk dn_116_0_0_ok 0 rfl)))
  (e_Lok (e_st (I := eI) (er_istore_n (i := 1) (x_dk dn_116_0_0_ok 1 rfl) (by decide +kernel)) nx_stor)))
  (e_Tok2
  (e_Lok (ld_iload_n_1 (x_dk dn_116_0_0_ok 2 rfl)))
  (e_Lok (ps_bipush_64 (x_dk dn_116_0_0_ok 3 rfl)))))
  (e_Tok2
  (e_Tok2
  (e_Lok (e_st (I := eI) (er_icmpge (off := 52) (tg := 57) (x_dk dn_116_0_0_ok 4 rfl) (by decide)) nx_if2))
  (e_Lok (ld_aload_n_0 (x_dk dn_116_0_0_ok 5 rfl))))
  (e_Tok2
  (e_Lok (lk_7_34g ho_116 (x_dk dn_116_0_0_ok 6 rfl)))
  (e_Tok2
  (e_Lok (ld_iload_n_1 (x_dk dn_116_0_0_ok 7 rfl)))
  (e_Lok (sm_iaload (x_dk dn_116_0_0_ok 8 rfl)))))))
  (e_Tok2
  (e_Tok2
  (e_Tok2
  (e_Lok (e_st (I := eI) (er_istore_n (i := 2) (x_dk dn_116_0_0_ok 9 rfl) (by decide +kernel)) nx_stor))
  (e_Lok (ld_aload_n_0 (x_dk dn_116_0_0_ok 10 rfl))))
  (e_Tok2
  (e_Lok (ld_iload_n_2 (x_dk dn_116_0_0_ok 11 rfl)))
  (e_Lok (lk_7_52 ho_116 (x_dk dn_116_0_0_ok 12 rfl)))))
  (e_Tok2
  (e_Tok2
  (e_Lok (e_st (I := eI) (er_istore_n (i := 3) (x_dk dn_116_0_0_ok 13 rfl) (by decide +kernel)) nx_stor))
  (e_Lok (ld_aload_n_0 (x_dk dn_116_0_0_ok 14 rfl))))
  (e_Tok2
  (e_Lok (lk_7_15g ho_116 (x_dk dn_116_0_0_ok 15 rfl)))
  (e_Tok2
  (e_Lok (ld_iload_n_2 (x_dk dn_116_0_0_ok 16 rfl)))
  (e_Lok (sm_iaload (x_dk dn_116_0_0_ok 17 rfl))))))))
  (e_Tok2
  (e_Tok2
  (e_Tok2
  (e_Tok2
  (e_Lok (e_st (I := eI) (er_ifne (off := 17) (tg := 44) (x_dk dn_116_0_0_ok 18 rfl) (by decide)) nx_if1))
  (e_Lok (ld_iload_n_3 (x_dk dn_116_0_0_ok 19 rfl))))
  (e_Tok2
  (e_Lok (e_st (I := eI) (er_ifeq (off := 13) (tg := 44) (x_dk dn_116_0_0_ok 20 rfl) (by decide)) nx_if1))
  (e_Lok (ld_aload_n_0 (x_dk dn_116_0_0_ok 21 rfl)))))
  (e_Tok2
  (e_Tok2
  (e_Lok (lk_7_18g ho_116 (x_dk dn_116_0_0_ok 22 rfl)))
  (e_Lok (ld_iload_n_2 (x_dk dn_116_0_0_ok 23 rfl))))
  (e_Tok2
  (e_Lok (e_st (I := eI) (er_dup2 (x_dk dn_116_0_0_ok 24 rfl)) (nx_stk bf_dup2)))
  (e_Tok2
  (e_Lok (sm_iaload (x_dk dn_116_0_1_ok 0 rfl)))
  (e_Lok (ps_iconst_1 (x_dk dn_116_0_1_ok 1 rfl)))))))
  (e_Tok2
  (e_Tok2
  (e_Tok2
  (e_Lok (sm_iadd (x_dk dn_116_0_1_ok 2 rfl)))
  (e_Lok (sm_iastore (x_dk dn_116_0_1_ok 3 rfl))))
  (e_Tok2
  (e_Lok (ld_aload_n_0 (x_dk dn_116_0_1_ok 4 rfl)))
  (e_Tok2
  (e_Lok (lk_7_15g ho_116 (x_dk dn_116_0_1_ok 5 rfl)))
  (e_Lok (ld_iload_n_2 (x_dk dn_116_0_1_ok 6 rfl))))))
  (e_Tok2
  (e_Tok2
  (e_Lok (ld_iload_n_3 (x_dk dn_116_0_1_ok 7 rfl)))
  (e_Lok (sm_iastore (x_dk dn_116_0_1_ok 8 rfl))))
  (e_Tok2
  (e_Lok (e_st (I := eI) (er_iinc (i := 1) (n := 1) (x_dk dn_116_0_1_ok 9 rfl) (by decide +kernel) (by decide)) nx_inc))
  (e_Tok2
  (e_Lok (e_st (I := eI) (er_goto (off := (-52)) (tg := 2) (x_dk dn_116_0_1_ok 10 rfl) (by decide)) nx_goto))
  (e_Lok (e_rt (I := eI) (k := 0) ⟨(x_dk dn_116_0_1_ok 11 rfl), rfl⟩))))))))
def te_116 : Nat → eE := te_116_0
theorem te_116_ok : ∀ pc, e_EOq eft cls elay eI n_116 pc (te_116 pc) := te_116_0_ok
theorem ho_117 : (xm_y n_117).cls = "RobotCellHouse$Points" := rfl
def dn_117_0_0 : List (Nat × Instr × Nat) := [(0, .aload_n 0, 1), (1, .getfield 27, 3), (4, .iload_n 1, 1), (5, .baload, 1), (6, .ifCond .eq 10, 3), (9, .aload_n 0, 1), (10, .getfield 21, 3), (13, .iload_n 1, 1), (14, .iaload, 1), (15, .ireturn, 1), (16, .aload_n 0, 1), (17, .getfield 24, 3), (20, .iload_n 1, 1), (21, .iaload, 1), (22, .ifCond .ge 10, 3), (25, .aload_n 0, 1), (26, .getfield 9, 3), (29, .iload_n 1, 1), (30, .iaload, 1), (31, .ireturn, 1), (32, .aload_n 0, 1), (33, .getfield 15, 3), (36, .aload_n 0, 1), (37, .getfield 24, 3), (40, .iload_n 1, 1)]
set_option maxRecDepth 20000 in
theorem dn_117_0_0_ok : dn_117_0_0.all (fun q => decide (decode (xm_b n_117) q.1 = .ok (q.2.1, q.2.2))) = true := xa_g_ok (by decide +kernel)
def dn_117_0_1 : List (Nat × Instr × Nat) := [(41, .iaload, 1), (42, .iaload, 1), (43, .istore_n 2, 1), (44, .aload_n 0, 1), (45, .getfield 31, 3), (48, .iload_n 1, 1), (49, .baload, 1), (50, .ifCond .ne 5, 3), (53, .iload_n 2, 1), (54, .ireturn, 1), (55, .iload_n 2, 1), (56, .ifCond .ne 7, 3), (59, .iconst 1, 1), (60, .goto 4, 3), (63, .iconst 0, 1), (64, .ireturn, 1)]
set_option maxRecDepth 20000 in
theorem dn_117_0_1_ok : dn_117_0_1.all (fun q => decide (decode (xm_b n_117) q.1 = .ok (q.2.1, q.2.2))) = true := xa_g_ok (by decide +kernel)
def te_117_0 : Nat → eE := (e_T 15 (e_T 6 (e_T 1 (e_T 0 (e_L 0 (0, ei_load 0 2 1, 0, 0)) (e_L 1 (0, ei_getf eft elay 7 5 4, 0, 0))) (e_T 4 (e_L 4 (0, ei_load 1 0 5, 0, 0)) (e_T 5 (e_L 5 (0, ei_ald elay true 6, 0, 0)) (e_L 6 (0, ei_if1 0 16 9, 0, 0))))) (e_T 10 (e_T 9 (e_L 9 (0, ei_load 0 2 10, 0, 0)) (e_L 10 (0, ei_getf eft elay 7 3 13, 0, 0))) (e_T 13 (e_L 13 (0, ei_load 1 0 14, 0, 0)) (e_T 14 (e_L 14 (0, ei_ald elay false 15, 0, 0)) (e_L 15 (1, e_nof, 1, 0)))))) (e_T 22 (e_T 17 (e_T 16 (e_L 16 (0, ei_load 0 2 17, 0, 0)) (e_L 17 (0, ei_getf eft elay 7 4 20, 0, 0))) (e_T 20 (e_L 20 (0, ei_load 1 0 21, 0, 0)) (e_T 21 (e_L 21 (0, ei_ald elay false 22, 0, 0)) (e_L 22 (0, ei_if1 3 32 25, 0, 0))))) (e_T 26 (e_T 25 (e_L 25 (0, ei_load 0 2 26, 0, 0)) (e_L 26 (0, ei_getf eft elay 7 0 29, 0, 0))) (e_T 29 (e_L 29 (0, ei_load 1 0 30, 0, 0)) (e_T 30 (e_L 30 (0, ei_ald elay false 31, 0, 0)) (e_L 31 (1, e_nof, 1, 0)))))))
set_option maxRecDepth 20000 in
set_option maxHeartbeats 4000000 in
theorem te_117_0_ok : ∀ pc, e_EOq eft cls elay eI n_117 pc (te_117_0 pc) :=
  (e_Tok2
  (e_Tok2
  (e_Tok2
  (e_Tok2
  (e_Lok (ld_aload_n_0 (x_dk dn_117_0_0_ok 0 rfl)))
  (e_Lok (lk_7_27g ho_117 (x_dk dn_117_0_0_ok 1 rfl))))
  (e_Tok2
  (e_Lok (ld_iload_n_1 (x_dk dn_117_0_0_ok 2 rfl)))
  (e_Tok2
  (e_Lok (e_st (I := eI) (er_baload (x_dk dn_117_0_0_ok 3 rfl)) nx_ald))
  (e_Lok (e_st (I := eI) (er_ifeq (off := 10) (tg := 16) (x_dk dn_117_0_0_ok 4 rfl) (by decide)) nx_if1)))))
  (e_Tok2
  (e_Tok2
  (e_Lok (ld_aload_n_0 (x_dk dn_117_0_0_ok 5 rfl)))
  (e_Lok (lk_7_21g ho_117 (x_dk dn_117_0_0_ok 6 rfl))))
  (e_Tok2
  (e_Lok (ld_iload_n_1 (x_dk dn_117_0_0_ok 7 rfl)))
  (e_Tok2
  (e_Lok (sm_iaload (x_dk dn_117_0_0_ok 8 rfl)))
  (e_Lok (e_rt (I := eI) (k := 1) ⟨(x_dk dn_117_0_0_ok 9 rfl), rfl⟩))))))
  (e_Tok2
  (e_Tok2
  (e_Tok2
  (e_Lok (ld_aload_n_0 (x_dk dn_117_0_0_ok 10 rfl)))
  (e_Lok (lk_7_24g ho_117 (x_dk dn_117_0_0_ok 11 rfl))))
  (e_Tok2
  (e_Lok (ld_iload_n_1 (x_dk dn_117_0_0_ok 12 rfl)))
  (e_Tok2
  (e_Lok (sm_iaload (x_dk dn_117_0_0_ok 13 rfl)))
  (e_Lok (e_st (I := eI) (er_ifge (off := 10) (tg := 32) (x_dk dn_117_0_0_ok 14 rfl) (by decide)) nx_if1)))))
  (e_Tok2
  (e_Tok2
  (e_Lok (ld_aload_n_0 (x_dk dn_117_0_0_ok 15 rfl)))
  (e_Lok (lk_7_9g ho_117 (x_dk dn_117_0_0_ok 16 rfl))))
  (e_Tok2
  (e_Lok (ld_iload_n_1 (x_dk dn_117_0_0_ok 17 rfl)))
  (e_Tok2
  (e_Lok (sm_iaload (x_dk dn_117_0_0_ok 18 rfl)))
  (e_Lok (e_rt (I := eI) (k := 1) ⟨(x_dk dn_117_0_0_ok 19 rfl), rfl⟩)))))))
def te_117_20 : Nat → eE := (e_T 45 (e_T 40 (e_T 33 (e_T 32 (e_L 32 (0, ei_load 0 2 33, 0, 0)) (e_L 33 (0, ei_getf eft elay 7 1 36, 0, 0))) (e_T 36 (e_L 36 (0, ei_load 0 2 37, 0, 0)) (e_T 37 (e_L 37 (0, ei_getf eft elay 7 4 40, 0, 0)) (e_L 40 (0, ei_load 1 0 41, 0, 0))))) (e_T 42 (e_T 41 (e_L 41 (0, ei_ald elay false 42, 0, 0)) (e_L 42 (0, ei_ald elay false 43, 0, 0))) (e_T 43 (e_L 43 (0, ei_stor 2 0 44, 0, 0)) (e_T 44 (e_L 44 (0, ei_load 0 2 45, 0, 0)) (e_L 45 (0, ei_getf eft elay 7 6 48, 0, 0)))))) (e_T 54 (e_T 49 (e_T 48 (e_L 48 (0, ei_load 1 0 49, 0, 0)) (e_L 49 (0, ei_ald elay true 50, 0, 0))) (e_T 50 (e_L 50 (0, ei_if1 1 55 53, 0, 0)) (e_T 53 (e_L 53 (0, ei_load 2 0 54, 0, 0)) (e_L 54 (1, e_nof, 1, 0))))) (e_T 59 (e_T 55 (e_L 55 (0, ei_load 2 0 56, 0, 0)) (e_T 56 (e_L 56 (0, ei_if1 1 63 59, 0, 0)) (e_L 59 (0, ei_push (0, 1) 60, 0, 0)))) (e_T 60 (e_L 60 (0, ei_goto 64, 0, 0)) (e_T 63 (e_L 63 (0, ei_push (0, 0) 64, 0, 0)) (e_L 64 (1, e_nof, 1, 0)))))))
set_option maxRecDepth 20000 in
set_option maxHeartbeats 4000000 in
theorem te_117_20_ok : ∀ pc, e_EOq eft cls elay eI n_117 pc (te_117_20 pc) :=
  (e_Tok2
  (e_Tok2
  (e_Tok2
  (e_Tok2
  (e_Lok (ld_aload_n_0 (x_dk dn_117_0_0_ok 20 rfl)))
  (e_Lok (lk_7_15g ho_117 (x_dk dn_117_0_0_ok 21 rfl))))
  (e_Tok2
  (e_Lok (ld_aload_n_0 (x_dk dn_117_0_0_ok 22 rfl)))
  (e_Tok2
  (e_Lok (lk_7_24g ho_117 (x_dk dn_117_0_0_ok 23 rfl)))
  (e_Lok (ld_iload_n_1 (x_dk dn_117_0_0_ok 24 rfl))))))
  (e_Tok2
  (e_Tok2
  (e_Lok (sm_iaload (x_dk dn_117_0_1_ok 0 rfl)))
  (e_Lok (sm_iaload (x_dk dn_117_0_1_ok 1 rfl))))
  (e_Tok2
  (e_Lok (e_st (I := eI) (er_istore_n (i := 2) (x_dk dn_117_0_1_ok 2 rfl) (by decide +kernel)) nx_stor))
  (e_Tok2
  (e_Lok (ld_aload_n_0 (x_dk dn_117_0_1_ok 3 rfl)))
  (e_Lok (lk_7_31g ho_117 (x_dk dn_117_0_1_ok 4 rfl)))))))
  (e_Tok2
  (e_Tok2
  (e_Tok2
  (e_Lok (ld_iload_n_1 (x_dk dn_117_0_1_ok 5 rfl)))
  (e_Lok (e_st (I := eI) (er_baload (x_dk dn_117_0_1_ok 6 rfl)) nx_ald)))
  (e_Tok2
  (e_Lok (e_st (I := eI) (er_ifne (off := 5) (tg := 55) (x_dk dn_117_0_1_ok 7 rfl) (by decide)) nx_if1))
  (e_Tok2
  (e_Lok (ld_iload_n_2 (x_dk dn_117_0_1_ok 8 rfl)))
  (e_Lok (e_rt (I := eI) (k := 1) ⟨(x_dk dn_117_0_1_ok 9 rfl), rfl⟩)))))
  (e_Tok2
  (e_Tok2
  (e_Lok (ld_iload_n_2 (x_dk dn_117_0_1_ok 10 rfl)))
  (e_Tok2
  (e_Lok (e_st (I := eI) (er_ifne (off := 7) (tg := 63) (x_dk dn_117_0_1_ok 11 rfl) (by decide)) nx_if1))
  (e_Lok (ps_iconst_1 (x_dk dn_117_0_1_ok 12 rfl)))))
  (e_Tok2
  (e_Lok (e_st (I := eI) (er_goto (off := 4) (tg := 64) (x_dk dn_117_0_1_ok 13 rfl) (by decide)) nx_goto))
  (e_Tok2
  (e_Lok (ps_iconst_0 (x_dk dn_117_0_1_ok 14 rfl)))
  (e_Lok (e_rt (I := eI) (k := 1) ⟨(x_dk dn_117_0_1_ok 15 rfl), rfl⟩)))))))
def te_117 : Nat → eE := (e_T 31 te_117_0 te_117_20)
theorem te_117_ok : ∀ pc, e_EOq eft cls elay eI n_117 pc (te_117 pc) := (e_Tok2 (te_117_0_ok) (te_117_20_ok))
theorem ho_118 : (xm_y n_118).cls = "RobotCellHouse$Reader" := rfl
def dn_118_0_0 : List (Nat × Instr × Nat) := [(0, .bipush 24, 2), (2, .istore_n 2, 1), (3, .iload_n 2, 1), (4, .ifCond .lt 42, 3), (7, .aload_n 0, 1), (8, .getfield 36, 3), (11, .sipush 4000, 3), (14, .if_icmp .ge 32, 3), (17, .aload_n 0, 1), (18, .getfield 25, 3), (21, .aload_n 0, 1), (22, .getfield 36, 3), (25, .iload_n 1, 1), (26, .iload_n 2, 1), (27, .ishr, 1), (28, .i2b, 1), (29, .bastore, 1), (30, .aload_n 0, 1), (31, .dup, 1), (32, .getfield 36, 3), (35, .iconst 1, 1), (36, .iadd, 1), (37, .putfield 36, 3), (40, .iinc 2 (-8), 3), (43, .goto (-40), 3)]
set_option maxRecDepth 20000 in
theorem dn_118_0_0_ok : dn_118_0_0.all (fun q => decide (decode (xm_b n_118) q.1 = .ok (q.2.1, q.2.2))) = true := xa_g_ok (by decide +kernel)
def dn_118_0_1 : List (Nat × Instr × Nat) := [(46, .return_, 1)]
set_option maxRecDepth 20000 in
theorem dn_118_0_1_ok : dn_118_0_1.all (fun q => decide (decode (xm_b n_118) q.1 = .ok (q.2.1, q.2.2))) = true := xa_g_ok (by decide +kernel)
def te_118_0 : Nat → eE := (e_T 25 (e_T 8 (e_T 3 (e_T 0 (e_L 0 (0, ei_push (0, 24) 2, 0, 0)) (e_T 2 (e_L 2 (0, ei_stor 2 0 3, 0, 0)) (e_L 3 (0, ei_load 2 0 4, 0, 0)))) (e_T 4 (e_L 4 (0, ei_if1 2 46 7, 0, 0)) (e_T 7 (e_L 7 (0, ei_load 0 2 8, 0, 0)) (e_L 8 (0, ei_getf eft elay 8 0 11, 0, 0))))) (e_T 17 (e_T 11 (e_L 11 (0, ei_push (0, 4000) 14, 0, 0)) (e_T 14 (e_L 14 (0, ei_if2 3 46 17, 0, 0)) (e_L 17 (0, ei_load 0 2 18, 0, 0)))) (e_T 21 (e_T 18 (e_L 18 (0, ei_getf eft elay 8 4 21, 0, 0)) (e_L 21 (0, ei_load 0 2 22, 0, 0))) (e_T 22 (e_L 22 (0, ei_getf eft elay 8 0 25, 0, 0)) (e_L 25 (0, ei_load 1 0 26, 0, 0)))))) (e_T 31 (e_T 28 (e_T 26 (e_L 26 (0, ei_load 2 0 27, 0, 0)) (e_T 27 (e_L 27 (0, ei_bin (eB (fun x y => x >>> (y &&& 31))) 28, 0, 0)) (e_L 28 (0, ei_un (fun x => (0, x.bmod 256)) 29, 0, 0)))) (e_T 29 (e_L 29 (0, ei_ast elay true 30, 0, 0)) (e_T 30 (e_L 30 (0, ei_load 0 2 31, 0, 0)) (e_L 31 (0, ei_stk ef_dup 32, 0, 0))))) (e_T 36 (e_T 32 (e_L 32 (0, ei_getf eft elay 8 0 35, 0, 0)) (e_T 35 (e_L 35 (0, ei_push (0, 1) 36, 0, 0)) (e_L 36 (0, ei_bin eF_add 37, 0, 0)))) (e_T 40 (e_T 37 (e_L 37 (0, ei_putf eft elay 8 0 0 40, 0, 0)) (e_L 40 (0, ei_inc 2 (-8) 43, 0, 0))) (e_T 43 (e_L 43 (0, ei_goto 3, 0, 0)) (e_L 46 (1, e_nof, 0, 0)))))))
set_option maxRecDepth 20000 in
set_option maxHeartbeats 4000000 in
theorem te_118_0_ok : ∀ pc, e_EOq eft cls elay eI n_118 pc (te_118_0 pc) :=
  (e_Tok2
  (e_Tok2
  (e_Tok2
  (e_Tok2
  (e_Lok (ps_bipush_24 (x_dk dn_118_0_0_ok 0 rfl)))
  (e_Tok2
  (e_Lok (e_st (I := eI) (er_istore_n (i := 2) (x_dk dn_118_0_0_ok 1 rfl) (by decide +kernel)) nx_stor))
  (e_Lok (ld_iload_n_2 (x_dk dn_118_0_0_ok 2 rfl)))))
  (e_Tok2
  (e_Lok (e_st (I := eI) (er_iflt (off := 42) (tg := 46) (x_dk dn_118_0_0_ok 3 rfl) (by decide)) nx_if1))
  (e_Tok2
  (e_Lok (ld_aload_n_0 (x_dk dn_118_0_0_ok 4 rfl)))
  (e_Lok (lk_8_36g ho_118 (x_dk dn_118_0_0_ok 5 rfl))))))
  (e_Tok2
  (e_Tok2
  (e_Lok (ps_sipush_4000 (x_dk dn_118_0_0_ok 6 rfl)))
  (e_Tok2
  (e_Lok (e_st (I := eI) (er_icmpge (off := 32) (tg := 46) (x_dk dn_118_0_0_ok 7 rfl) (by decide)) nx_if2))
  (e_Lok (ld_aload_n_0 (x_dk dn_118_0_0_ok 8 rfl)))))
  (e_Tok2
  (e_Tok2
  (e_Lok (lk_8_25g ho_118 (x_dk dn_118_0_0_ok 9 rfl)))
  (e_Lok (ld_aload_n_0 (x_dk dn_118_0_0_ok 10 rfl))))
  (e_Tok2
  (e_Lok (lk_8_36g ho_118 (x_dk dn_118_0_0_ok 11 rfl)))
  (e_Lok (ld_iload_n_1 (x_dk dn_118_0_0_ok 12 rfl)))))))
  (e_Tok2
  (e_Tok2
  (e_Tok2
  (e_Lok (ld_iload_n_2 (x_dk dn_118_0_0_ok 13 rfl)))
  (e_Tok2
  (e_Lok (e_st (I := eI) (er_ishr (x_dk dn_118_0_0_ok 14 rfl)) nx_bin))
  (e_Lok (e_st (I := eI) (er_i2b (x_dk dn_118_0_0_ok 15 rfl)) (nx_un (fun _ => rfl))))))
  (e_Tok2
  (e_Lok (e_st (I := eI) (er_bastore (x_dk dn_118_0_0_ok 16 rfl)) nx_ast))
  (e_Tok2
  (e_Lok (ld_aload_n_0 (x_dk dn_118_0_0_ok 17 rfl)))
  (e_Lok (e_st (I := eI) (er_dup (x_dk dn_118_0_0_ok 18 rfl)) (nx_stk bf_dup))))))
  (e_Tok2
  (e_Tok2
  (e_Lok (lk_8_36g ho_118 (x_dk dn_118_0_0_ok 19 rfl)))
  (e_Tok2
  (e_Lok (ps_iconst_1 (x_dk dn_118_0_0_ok 20 rfl)))
  (e_Lok (sm_iadd (x_dk dn_118_0_0_ok 21 rfl)))))
  (e_Tok2
  (e_Tok2
  (e_Lok (lk_8_36p ho_118 (x_dk dn_118_0_0_ok 22 rfl)))
  (e_Lok (e_st (I := eI) (er_iinc (i := 2) (n := (-8)) (x_dk dn_118_0_0_ok 23 rfl) (by decide +kernel) (by decide)) nx_inc)))
  (e_Tok2
  (e_Lok (e_st (I := eI) (er_goto (off := (-40)) (tg := 3) (x_dk dn_118_0_0_ok 24 rfl) (by decide)) nx_goto))
  (e_Lok (e_rt (I := eI) (k := 0) ⟨(x_dk dn_118_0_1_ok 0 rfl), rfl⟩)))))))
def te_118 : Nat → eE := te_118_0
theorem te_118_ok : ∀ pc, e_EOq eft cls elay eI n_118 pc (te_118 pc) := te_118_0_ok
end
