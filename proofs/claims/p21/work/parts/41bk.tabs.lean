noncomputable section
theorem ho_428 : (xm_y n_428).cls = "RobotCellHouseModel" := rfl
def dn_428_0_0 : List (Nat × Instr × Nat) := [(0, .aload_n 0, 1), (1, .iload_n 1, 1), (2, .invokevirtual 876, 3), (5, .ifCond .ne 5, 3), (8, .iconst (-1), 1), (9, .ireturn, 1), (10, .aload_n 0, 1), (11, .getfield 265, 3), (14, .ifCond .ne 6, 3), (17, .bipush (-2), 2), (19, .ireturn, 1), (20, .aload_n 0, 1), (21, .invokevirtual 863, 3), (24, .ifCond .eq 6, 3), (27, .bipush (-3), 2), (29, .ireturn, 1), (30, .aload_n 0, 1), (31, .getfield 8, 3), (34, .sipush 224, 3), (37, .iload_n 1, 1), (38, .iadd, 1), (39, .iaload, 1), (40, .istore 4, 2), (42, .aload_n 0, 1), (43, .invokevirtual 467, 3)]
set_option maxRecDepth 20000 in
theorem dn_428_0_0_ok : dn_428_0_0.all (fun q => decide (decode (xm_b n_428) q.1 = .ok (q.2.1, q.2.2))) = true := xa_g_ok (by decide +kernel)
def dn_428_0_1 : List (Nat × Instr × Nat) := [(46, .aload_n 0, 1), (47, .getfield 8, 3), (50, .sipush 224, 3), (53, .iload_n 1, 1), (54, .iadd, 1), (55, .iload_n 3, 1), (56, .ifCond .eq 7, 3), (59, .iconst 1, 1), (60, .goto 4, 3), (63, .iconst 0, 1), (64, .iastore, 1), (65, .aload_n 0, 1), (66, .getfield 8, 3), (69, .sipush 288, 3), (72, .iload_n 1, 1), (73, .iadd, 1), (74, .iload_n 3, 1), (75, .ifCond .eq 7, 3), (78, .iload_n 2, 1), (79, .goto 4, 3), (82, .iconst 0, 1), (83, .iastore, 1), (84, .aload_n 0, 1), (85, .invokevirtual 470, 3), (88, .aload_n 0, 1)]
set_option maxRecDepth 20000 in
theorem dn_428_0_1_ok : dn_428_0_1.all (fun q => decide (decode (xm_b n_428) q.1 = .ok (q.2.1, q.2.2))) = true := xa_g_ok (by decide +kernel)
def dn_428_0_2 : List (Nat × Instr × Nat) := [(89, .iconst 3, 1), (90, .iload_n 1, 1), (91, .iload_n 2, 1), (92, .iload_n 3, 1), (93, .ifCond .eq 7, 3), (96, .iconst 1, 1), (97, .goto 4, 3), (100, .iconst 0, 1), (101, .invokevirtual 866, 3), (104, .iload 4, 2), (106, .ireturn, 1)]
set_option maxRecDepth 20000 in
theorem dn_428_0_2_ok : dn_428_0_2.all (fun q => decide (decode (xm_b n_428) q.1 = .ok (q.2.1, q.2.2))) = true := xa_g_ok (by decide +kernel)
def te_428_0 : Nat → eE := (e_T 27 (e_T 10 (e_T 2 (e_T 0 (e_L 0 (0, ei_load 0 2 1, 0, 0)) (e_T 1 (e_L 1 (0, ei_load 1 0 2, 0, 0)) (e_L 2 (2, e_nof, 424, 2)))) (e_T 8 (e_T 5 (e_L 5 (0, ei_if1 1 10 8, 0, 0)) (e_L 8 (0, ei_push (0, (-1)) 9, 0, 0))) (e_T 9 (e_L 9 (1, e_nof, 1, 0)) (e_L 10 (0, ei_load 0 2 11, 0, 0))))) (e_T 19 (e_T 14 (e_T 11 (e_L 11 (0, ei_getf eft elay 12 3 14, 0, 0)) (e_L 14 (0, ei_if1 1 20 17, 0, 0))) (e_T 17 (e_L 17 (0, ei_push (0, (-2)) 19, 0, 0)) (e_L 19 (1, e_nof, 1, 0)))) (e_T 21 (e_T 20 (e_L 20 (0, ei_load 0 2 21, 0, 0)) (e_L 21 (2, e_nof, 422, 1))) (e_T 24 (e_L 24 (0, ei_if1 0 30 27, 0, 0)) (e_L 27 (0, ei_push (0, (-3)) 29, 0, 0)))))) (e_T 39 (e_T 31 (e_T 29 (e_L 29 (1, e_nof, 1, 0)) (e_T 30 (e_L 30 (0, ei_load 0 2 31, 0, 0)) (e_L 31 (0, ei_getf eft elay 12 0 34, 0, 0)))) (e_T 37 (e_T 34 (e_L 34 (0, ei_push (0, 224) 37, 0, 0)) (e_L 37 (0, ei_load 1 0 38, 0, 0))) (e_T 38 (e_L 38 (0, ei_bin eF_add 39, 0, 0)) (e_L 39 (0, ei_ald elay false 40, 0, 0))))) (e_T 46 (e_T 42 (e_T 40 (e_L 40 (0, ei_stor 4 0 42, 0, 0)) (e_L 42 (0, ei_load 0 2 43, 0, 0))) (e_T 43 (e_L 43 (2, e_nof, 321, 1)) (e_L 46 (0, ei_load 0 2 47, 0, 0)))) (e_T 50 (e_T 47 (e_L 47 (0, ei_getf eft elay 12 0 50, 0, 0)) (e_L 50 (0, ei_push (0, 224) 53, 0, 0))) (e_T 53 (e_L 53 (0, ei_load 1 0 54, 0, 0)) (e_L 54 (0, ei_bin eF_add 55, 0, 0)))))))
set_option maxRecDepth 20000 in
set_option maxHeartbeats 4000000 in
theorem te_428_0_ok : ∀ pc, e_EOq eft cls elay eI n_428 pc (te_428_0 pc) :=
  (e_Tok2
  (e_Tok2
  (e_Tok2
  (e_Tok2
  (e_Lok (ld_aload_n_0 (x_dk dn_428_0_0_ok 0 rfl)))
  (e_Tok2
  (e_Lok (ld_iload_n_1 (x_dk dn_428_0_0_ok 1 rfl)))
  (e_Lok (lk_12_876 ho_428 (x_dk dn_428_0_0_ok 2 rfl)))))
  (e_Tok2
  (e_Tok2
  (e_Lok (e_st (I := eI) (er_ifne (off := 5) (tg := 10) (x_dk dn_428_0_0_ok 3 rfl) (by decide)) nx_if1))
  (e_Lok (ps_iconst_m1 (x_dk dn_428_0_0_ok 4 rfl))))
  (e_Tok2
  (e_Lok (e_rt (I := eI) (k := 1) ⟨(x_dk dn_428_0_0_ok 5 rfl), rfl⟩))
  (e_Lok (ld_aload_n_0 (x_dk dn_428_0_0_ok 6 rfl))))))
  (e_Tok2
  (e_Tok2
  (e_Tok2
  (e_Lok (lk_12_265g ho_428 (x_dk dn_428_0_0_ok 7 rfl)))
  (e_Lok (e_st (I := eI) (er_ifne (off := 6) (tg := 20) (x_dk dn_428_0_0_ok 8 rfl) (by decide)) nx_if1)))
  (e_Tok2
  (e_Lok (ps_bipush_m2 (x_dk dn_428_0_0_ok 9 rfl)))
  (e_Lok (e_rt (I := eI) (k := 1) ⟨(x_dk dn_428_0_0_ok 10 rfl), rfl⟩))))
  (e_Tok2
  (e_Tok2
  (e_Lok (ld_aload_n_0 (x_dk dn_428_0_0_ok 11 rfl)))
  (e_Lok (lk_12_863 ho_428 (x_dk dn_428_0_0_ok 12 rfl))))
  (e_Tok2
  (e_Lok (e_st (I := eI) (er_ifeq (off := 6) (tg := 30) (x_dk dn_428_0_0_ok 13 rfl) (by decide)) nx_if1))
  (e_Lok (ps_bipush_m3 (x_dk dn_428_0_0_ok 14 rfl)))))))
  (e_Tok2
  (e_Tok2
  (e_Tok2
  (e_Lok (e_rt (I := eI) (k := 1) ⟨(x_dk dn_428_0_0_ok 15 rfl), rfl⟩))
  (e_Tok2
  (e_Lok (ld_aload_n_0 (x_dk dn_428_0_0_ok 16 rfl)))
  (e_Lok (lk_12_8g ho_428 (x_dk dn_428_0_0_ok 17 rfl)))))
  (e_Tok2
  (e_Tok2
  (e_Lok (ps_sipush_224 (x_dk dn_428_0_0_ok 18 rfl)))
  (e_Lok (ld_iload_n_1 (x_dk dn_428_0_0_ok 19 rfl))))
  (e_Tok2
  (e_Lok (sm_iadd (x_dk dn_428_0_0_ok 20 rfl)))
  (e_Lok (sm_iaload (x_dk dn_428_0_0_ok 21 rfl))))))
  (e_Tok2
  (e_Tok2
  (e_Tok2
  (e_Lok (e_st (I := eI) (er_istore (i := 4) (x_dk dn_428_0_0_ok 22 rfl) (by decide +kernel)) nx_stor))
  (e_Lok (ld_aload_n_0 (x_dk dn_428_0_0_ok 23 rfl))))
  (e_Tok2
  (e_Lok (lk_12_467 ho_428 (x_dk dn_428_0_0_ok 24 rfl)))
  (e_Lok (ld_aload_n_0 (x_dk dn_428_0_1_ok 0 rfl)))))
  (e_Tok2
  (e_Tok2
  (e_Lok (lk_12_8g ho_428 (x_dk dn_428_0_1_ok 1 rfl)))
  (e_Lok (ps_sipush_224 (x_dk dn_428_0_1_ok 2 rfl))))
  (e_Tok2
  (e_Lok (ld_iload_n_1 (x_dk dn_428_0_1_ok 3 rfl)))
  (e_Lok (sm_iadd (x_dk dn_428_0_1_ok 4 rfl))))))))
def te_428_30 : Nat → eE := (e_T 79 (e_T 65 (e_T 59 (e_T 55 (e_L 55 (0, ei_load 3 0 56, 0, 0)) (e_T 56 (e_L 56 (0, ei_if1 0 63 59, 0, 0)) (e_L 59 (0, ei_push (0, 1) 60, 0, 0)))) (e_T 63 (e_T 60 (e_L 60 (0, ei_goto 64, 0, 0)) (e_L 63 (0, ei_push (0, 0) 64, 0, 0))) (e_T 64 (e_L 64 (0, ei_ast elay false 65, 0, 0)) (e_L 65 (0, ei_load 0 2 66, 0, 0))))) (e_T 73 (e_T 69 (e_T 66 (e_L 66 (0, ei_getf eft elay 12 0 69, 0, 0)) (e_L 69 (0, ei_push (0, 288) 72, 0, 0))) (e_T 72 (e_L 72 (0, ei_load 1 0 73, 0, 0)) (e_L 73 (0, ei_bin eF_add 74, 0, 0)))) (e_T 75 (e_T 74 (e_L 74 (0, ei_load 3 0 75, 0, 0)) (e_L 75 (0, ei_if1 0 82 78, 0, 0))) (e_T 78 (e_L 78 (0, ei_load 2 0 79, 0, 0)) (e_L 79 (0, ei_goto 83, 0, 0)))))) (e_T 91 (e_T 85 (e_T 83 (e_T 82 (e_L 82 (0, ei_push (0, 0) 83, 0, 0)) (e_L 83 (0, ei_ast elay false 84, 0, 0))) (e_T 84 (e_L 84 (0, ei_load 0 2 85, 0, 0)) (e_L 85 (2, e_nof, 322, 1)))) (e_T 89 (e_T 88 (e_L 88 (0, ei_load 0 2 89, 0, 0)) (e_L 89 (0, ei_push (0, 3) 90, 0, 0))) (e_T 90 (e_L 90 (0, ei_load 1 0 91, 0, 0)) (e_L 91 (0, ei_load 2 0 92, 0, 0))))) (e_T 97 (e_T 93 (e_T 92 (e_L 92 (0, ei_load 3 0 93, 0, 0)) (e_L 93 (0, ei_if1 0 100 96, 0, 0))) (e_T 96 (e_L 96 (0, ei_push (0, 1) 97, 0, 0)) (e_L 97 (0, ei_goto 101, 0, 0)))) (e_T 101 (e_T 100 (e_L 100 (0, ei_push (0, 0) 101, 0, 0)) (e_L 101 (2, e_nof, 423, 5))) (e_T 104 (e_L 104 (0, ei_load 4 0 106, 0, 0)) (e_L 106 (1, e_nof, 1, 0)))))))
set_option maxRecDepth 20000 in
set_option maxHeartbeats 4000000 in
theorem te_428_30_ok : ∀ pc, e_EOq eft cls elay eI n_428 pc (te_428_30 pc) :=
  (e_Tok2
  (e_Tok2
  (e_Tok2
  (e_Tok2
  (e_Lok (ld_iload_n_3 (x_dk dn_428_0_1_ok 5 rfl)))
  (e_Tok2
  (e_Lok (e_st (I := eI) (er_ifeq (off := 7) (tg := 63) (x_dk dn_428_0_1_ok 6 rfl) (by decide)) nx_if1))
  (e_Lok (ps_iconst_1 (x_dk dn_428_0_1_ok 7 rfl)))))
  (e_Tok2
  (e_Tok2
  (e_Lok (e_st (I := eI) (er_goto (off := 4) (tg := 64) (x_dk dn_428_0_1_ok 8 rfl) (by decide)) nx_goto))
  (e_Lok (ps_iconst_0 (x_dk dn_428_0_1_ok 9 rfl))))
  (e_Tok2
  (e_Lok (sm_iastore (x_dk dn_428_0_1_ok 10 rfl)))
  (e_Lok (ld_aload_n_0 (x_dk dn_428_0_1_ok 11 rfl))))))
  (e_Tok2
  (e_Tok2
  (e_Tok2
  (e_Lok (lk_12_8g ho_428 (x_dk dn_428_0_1_ok 12 rfl)))
  (e_Lok (ps_sipush_288 (x_dk dn_428_0_1_ok 13 rfl))))
  (e_Tok2
  (e_Lok (ld_iload_n_1 (x_dk dn_428_0_1_ok 14 rfl)))
  (e_Lok (sm_iadd (x_dk dn_428_0_1_ok 15 rfl)))))
  (e_Tok2
  (e_Tok2
  (e_Lok (ld_iload_n_3 (x_dk dn_428_0_1_ok 16 rfl)))
  (e_Lok (e_st (I := eI) (er_ifeq (off := 7) (tg := 82) (x_dk dn_428_0_1_ok 17 rfl) (by decide)) nx_if1)))
  (e_Tok2
  (e_Lok (ld_iload_n_2 (x_dk dn_428_0_1_ok 18 rfl)))
  (e_Lok (e_st (I := eI) (er_goto (off := 4) (tg := 83) (x_dk dn_428_0_1_ok 19 rfl) (by decide)) nx_goto))))))
  (e_Tok2
  (e_Tok2
  (e_Tok2
  (e_Tok2
  (e_Lok (ps_iconst_0 (x_dk dn_428_0_1_ok 20 rfl)))
  (e_Lok (sm_iastore (x_dk dn_428_0_1_ok 21 rfl))))
  (e_Tok2
  (e_Lok (ld_aload_n_0 (x_dk dn_428_0_1_ok 22 rfl)))
  (e_Lok (lk_12_470 ho_428 (x_dk dn_428_0_1_ok 23 rfl)))))
  (e_Tok2
  (e_Tok2
  (e_Lok (ld_aload_n_0 (x_dk dn_428_0_1_ok 24 rfl)))
  (e_Lok (ps_iconst_3 (x_dk dn_428_0_2_ok 0 rfl))))
  (e_Tok2
  (e_Lok (ld_iload_n_1 (x_dk dn_428_0_2_ok 1 rfl)))
  (e_Lok (ld_iload_n_2 (x_dk dn_428_0_2_ok 2 rfl))))))
  (e_Tok2
  (e_Tok2
  (e_Tok2
  (e_Lok (ld_iload_n_3 (x_dk dn_428_0_2_ok 3 rfl)))
  (e_Lok (e_st (I := eI) (er_ifeq (off := 7) (tg := 100) (x_dk dn_428_0_2_ok 4 rfl) (by decide)) nx_if1)))
  (e_Tok2
  (e_Lok (ps_iconst_1 (x_dk dn_428_0_2_ok 5 rfl)))
  (e_Lok (e_st (I := eI) (er_goto (off := 4) (tg := 101) (x_dk dn_428_0_2_ok 6 rfl) (by decide)) nx_goto))))
  (e_Tok2
  (e_Tok2
  (e_Lok (ps_iconst_0 (x_dk dn_428_0_2_ok 7 rfl)))
  (e_Lok (lk_12_866 ho_428 (x_dk dn_428_0_2_ok 8 rfl))))
  (e_Tok2
  (e_Lok (ld_iload_4 (x_dk dn_428_0_2_ok 9 rfl)))
  (e_Lok (e_rt (I := eI) (k := 1) ⟨(x_dk dn_428_0_2_ok 10 rfl), rfl⟩)))))))
def te_428 : Nat → eE := (e_T 54 te_428_0 te_428_30)
theorem te_428_ok : ∀ pc, e_EOq eft cls elay eI n_428 pc (te_428 pc) := (e_Tok2 (te_428_0_ok) (te_428_30_ok))
theorem ho_429 : (xm_y n_429).cls = "RobotCellHouseModel" := rfl
def dn_429_0_0 : List (Nat × Instr × Nat) := [(0, .iload_n 1, 1), (1, .i2l, 1), (2, .lconst 0, 1), (3, .aload_n 0, 1), (4, .getfield 285, 3), (7, .iconst 1, 1), (8, .isub, 1), (9, .i2l, 1), (10, .invokestatic 301, 3), (13, .ifCond .ne 5, 3), (16, .iconst (-1), 1), (17, .ireturn, 1), (18, .aload_n 0, 1), (19, .getfield 265, 3), (22, .ifCond .ne 6, 3), (25, .bipush (-2), 2), (27, .ireturn, 1), (28, .aload_n 0, 1), (29, .invokevirtual 863, 3), (32, .ifCond .eq 6, 3), (35, .bipush (-3), 2), (37, .ireturn, 1), (38, .aload_n 0, 1), (39, .getfield 8, 3), (42, .sipush 20836, 3)]
set_option maxRecDepth 20000 in
theorem dn_429_0_0_ok : dn_429_0_0.all (fun q => decide (decode (xm_b n_429) q.1 = .ok (q.2.1, q.2.2))) = true := xa_g_ok (by decide +kernel)
def dn_429_0_1 : List (Nat × Instr × Nat) := [(45, .iconst 4, 1), (46, .iload_n 1, 1), (47, .imul, 1), (48, .iadd, 1), (49, .iload_n 2, 1), (50, .ifCond .eq 7, 3), (53, .iconst 1, 1), (54, .goto 4, 3), (57, .iconst 0, 1), (58, .iastore, 1), (59, .aload_n 0, 1), (60, .getfield 8, 3), (63, .sipush 20836, 3), (66, .iconst 4, 1), (67, .iload_n 1, 1), (68, .imul, 1), (69, .iadd, 1), (70, .iconst 1, 1), (71, .iadd, 1), (72, .iload_n 3, 1), (73, .ifCond .eq 7, 3), (76, .iconst 1, 1), (77, .goto 4, 3), (80, .iconst 0, 1), (81, .iastore, 1)]
set_option maxRecDepth 20000 in
theorem dn_429_0_1_ok : dn_429_0_1.all (fun q => decide (decode (xm_b n_429) q.1 = .ok (q.2.1, q.2.2))) = true := xa_g_ok (by decide +kernel)
def dn_429_0_2 : List (Nat × Instr × Nat) := [(82, .aload_n 0, 1), (83, .iconst 4, 1), (84, .iload_n 1, 1), (85, .iload_n 2, 1), (86, .ifCond .eq 7, 3), (89, .iconst 1, 1), (90, .goto 4, 3), (93, .iconst 0, 1), (94, .iload_n 3, 1), (95, .ifCond .eq 7, 3), (98, .iconst 1, 1), (99, .goto 4, 3), (102, .iconst 0, 1), (103, .invokevirtual 866, 3), (106, .iconst 0, 1), (107, .ireturn, 1)]
set_option maxRecDepth 20000 in
theorem dn_429_0_2_ok : dn_429_0_2.all (fun q => decide (decode (xm_b n_429) q.1 = .ok (q.2.1, q.2.2))) = true := xa_g_ok (by decide +kernel)
def te_429_0 : Nat → eE := (e_T 25 (e_T 9 (e_T 3 (e_T 1 (e_T 0 (e_L 0 (0, ei_load 1 0 1, 0, 0)) (e_L 1 (0, ei_un (fun x => (4, x)) 2, 0, 0))) (e_T 2 (e_L 2 (0, ei_push (4, 0) 3, 0, 0)) (e_L 3 (0, ei_load 0 2 4, 0, 0)))) (e_T 7 (e_T 4 (e_L 4 (0, ei_getf eft elay 12 49 7, 0, 0)) (e_L 7 (0, ei_push (0, 1) 8, 0, 0))) (e_T 8 (e_L 8 (0, ei_bin eF_sub 9, 0, 0)) (e_L 9 (0, ei_un (fun x => (4, x)) 10, 0, 0))))) (e_T 17 (e_T 13 (e_T 10 (e_L 10 (2, e_nof, 266, 3)) (e_L 13 (0, ei_if1 1 18 16, 0, 0))) (e_T 16 (e_L 16 (0, ei_push (0, (-1)) 17, 0, 0)) (e_L 17 (1, e_nof, 1, 0)))) (e_T 19 (e_T 18 (e_L 18 (0, ei_load 0 2 19, 0, 0)) (e_L 19 (0, ei_getf eft elay 12 3 22, 0, 0))) (e_T 22 (e_L 22 (0, ei_if1 1 28 25, 0, 0)) (e_L 25 (0, ei_push (0, (-2)) 27, 0, 0)))))) (e_T 39 (e_T 32 (e_T 28 (e_T 27 (e_L 27 (1, e_nof, 1, 0)) (e_L 28 (0, ei_load 0 2 29, 0, 0))) (e_T 29 (e_L 29 (2, e_nof, 422, 1)) (e_L 32 (0, ei_if1 0 38 35, 0, 0)))) (e_T 37 (e_T 35 (e_L 35 (0, ei_push (0, (-3)) 37, 0, 0)) (e_L 37 (1, e_nof, 1, 0))) (e_T 38 (e_L 38 (0, ei_load 0 2 39, 0, 0)) (e_L 39 (0, ei_getf eft elay 12 0 42, 0, 0))))) (e_T 47 (e_T 45 (e_T 42 (e_L 42 (0, ei_push (0, 20836) 45, 0, 0)) (e_L 45 (0, ei_push (0, 4) 46, 0, 0))) (e_T 46 (e_L 46 (0, ei_load 1 0 47, 0, 0)) (e_L 47 (0, ei_bin eF_mul 48, 0, 0)))) (e_T 49 (e_T 48 (e_L 48 (0, ei_bin eF_add 49, 0, 0)) (e_L 49 (0, ei_load 2 0 50, 0, 0))) (e_T 50 (e_L 50 (0, ei_if1 0 57 53, 0, 0)) (e_T 53 (e_L 53 (0, ei_push (0, 1) 54, 0, 0)) (e_L 54 (0, ei_goto 58, 0, 0))))))))
set_option maxRecDepth 20000 in
set_option maxHeartbeats 4000000 in
theorem te_429_0_ok : ∀ pc, e_EOq eft cls elay eI n_429 pc (te_429_0 pc) :=
  (e_Tok2
  (e_Tok2
  (e_Tok2
  (e_Tok2
  (e_Tok2
  (e_Lok (ld_iload_n_1 (x_dk dn_429_0_0_ok 0 rfl)))
  (e_Lok (e_st (I := eI) (er_i2l (x_dk dn_429_0_0_ok 1 rfl)) (nx_un (fun _ => rfl)))))
  (e_Tok2
  (e_Lok (ps_lconst_0 (x_dk dn_429_0_0_ok 2 rfl)))
  (e_Lok (ld_aload_n_0 (x_dk dn_429_0_0_ok 3 rfl)))))
  (e_Tok2
  (e_Tok2
  (e_Lok (lk_12_285g ho_429 (x_dk dn_429_0_0_ok 4 rfl)))
  (e_Lok (ps_iconst_1 (x_dk dn_429_0_0_ok 5 rfl))))
  (e_Tok2
  (e_Lok (sm_isub (x_dk dn_429_0_0_ok 6 rfl)))
  (e_Lok (e_st (I := eI) (er_i2l (x_dk dn_429_0_0_ok 7 rfl)) (nx_un (fun _ => rfl)))))))
  (e_Tok2
  (e_Tok2
  (e_Tok2
  (e_Lok (lk_12_301 ho_429 (x_dk dn_429_0_0_ok 8 rfl)))
  (e_Lok (e_st (I := eI) (er_ifne (off := 5) (tg := 18) (x_dk dn_429_0_0_ok 9 rfl) (by decide)) nx_if1)))
  (e_Tok2
  (e_Lok (ps_iconst_m1 (x_dk dn_429_0_0_ok 10 rfl)))
  (e_Lok (e_rt (I := eI) (k := 1) ⟨(x_dk dn_429_0_0_ok 11 rfl), rfl⟩))))
  (e_Tok2
  (e_Tok2
  (e_Lok (ld_aload_n_0 (x_dk dn_429_0_0_ok 12 rfl)))
  (e_Lok (lk_12_265g ho_429 (x_dk dn_429_0_0_ok 13 rfl))))
  (e_Tok2
  (e_Lok (e_st (I := eI) (er_ifne (off := 6) (tg := 28) (x_dk dn_429_0_0_ok 14 rfl) (by decide)) nx_if1))
  (e_Lok (ps_bipush_m2 (x_dk dn_429_0_0_ok 15 rfl)))))))
  (e_Tok2
  (e_Tok2
  (e_Tok2
  (e_Tok2
  (e_Lok (e_rt (I := eI) (k := 1) ⟨(x_dk dn_429_0_0_ok 16 rfl), rfl⟩))
  (e_Lok (ld_aload_n_0 (x_dk dn_429_0_0_ok 17 rfl))))
  (e_Tok2
  (e_Lok (lk_12_863 ho_429 (x_dk dn_429_0_0_ok 18 rfl)))
  (e_Lok (e_st (I := eI) (er_ifeq (off := 6) (tg := 38) (x_dk dn_429_0_0_ok 19 rfl) (by decide)) nx_if1))))
  (e_Tok2
  (e_Tok2
  (e_Lok (ps_bipush_m3 (x_dk dn_429_0_0_ok 20 rfl)))
  (e_Lok (e_rt (I := eI) (k := 1) ⟨(x_dk dn_429_0_0_ok 21 rfl), rfl⟩)))
  (e_Tok2
  (e_Lok (ld_aload_n_0 (x_dk dn_429_0_0_ok 22 rfl)))
  (e_Lok (lk_12_8g ho_429 (x_dk dn_429_0_0_ok 23 rfl))))))
  (e_Tok2
  (e_Tok2
  (e_Tok2
  (e_Lok (ps_sipush_20836 (x_dk dn_429_0_0_ok 24 rfl)))
  (e_Lok (ps_iconst_4 (x_dk dn_429_0_1_ok 0 rfl))))
  (e_Tok2
  (e_Lok (ld_iload_n_1 (x_dk dn_429_0_1_ok 1 rfl)))
  (e_Lok (sm_imul (x_dk dn_429_0_1_ok 2 rfl)))))
  (e_Tok2
  (e_Tok2
  (e_Lok (sm_iadd (x_dk dn_429_0_1_ok 3 rfl)))
  (e_Lok (ld_iload_n_2 (x_dk dn_429_0_1_ok 4 rfl))))
  (e_Tok2
  (e_Lok (e_st (I := eI) (er_ifeq (off := 7) (tg := 57) (x_dk dn_429_0_1_ok 5 rfl) (by decide)) nx_if1))
  (e_Tok2
  (e_Lok (ps_iconst_1 (x_dk dn_429_0_1_ok 6 rfl)))
  (e_Lok (e_st (I := eI) (er_goto (off := 4) (tg := 58) (x_dk dn_429_0_1_ok 7 rfl) (by decide)) nx_goto))))))))
def te_429_33 : Nat → eE := (e_T 80 (e_T 68 (e_T 60 (e_T 58 (e_T 57 (e_L 57 (0, ei_push (0, 0) 58, 0, 0)) (e_L 58 (0, ei_ast elay false 59, 0, 0))) (e_T 59 (e_L 59 (0, ei_load 0 2 60, 0, 0)) (e_L 60 (0, ei_getf eft elay 12 0 63, 0, 0)))) (e_T 66 (e_T 63 (e_L 63 (0, ei_push (0, 20836) 66, 0, 0)) (e_L 66 (0, ei_push (0, 4) 67, 0, 0))) (e_T 67 (e_L 67 (0, ei_load 1 0 68, 0, 0)) (e_L 68 (0, ei_bin eF_mul 69, 0, 0))))) (e_T 72 (e_T 70 (e_T 69 (e_L 69 (0, ei_bin eF_add 70, 0, 0)) (e_L 70 (0, ei_push (0, 1) 71, 0, 0))) (e_T 71 (e_L 71 (0, ei_bin eF_add 72, 0, 0)) (e_L 72 (0, ei_load 3 0 73, 0, 0)))) (e_T 76 (e_T 73 (e_L 73 (0, ei_if1 0 80 76, 0, 0)) (e_L 76 (0, ei_push (0, 1) 77, 0, 0))) (e_T 77 (e_L 77 (0, ei_goto 81, 0, 0)) (e_L 80 (0, ei_push (0, 0) 81, 0, 0)))))) (e_T 90 (e_T 84 (e_T 82 (e_T 81 (e_L 81 (0, ei_ast elay false 82, 0, 0)) (e_L 82 (0, ei_load 0 2 83, 0, 0))) (e_T 83 (e_L 83 (0, ei_push (0, 4) 84, 0, 0)) (e_L 84 (0, ei_load 1 0 85, 0, 0)))) (e_T 86 (e_T 85 (e_L 85 (0, ei_load 2 0 86, 0, 0)) (e_L 86 (0, ei_if1 0 93 89, 0, 0))) (e_T 89 (e_L 89 (0, ei_push (0, 1) 90, 0, 0)) (e_L 90 (0, ei_goto 94, 0, 0))))) (e_T 98 (e_T 94 (e_T 93 (e_L 93 (0, ei_push (0, 0) 94, 0, 0)) (e_L 94 (0, ei_load 3 0 95, 0, 0))) (e_T 95 (e_L 95 (0, ei_if1 0 102 98, 0, 0)) (e_L 98 (0, ei_push (0, 1) 99, 0, 0)))) (e_T 102 (e_T 99 (e_L 99 (0, ei_goto 103, 0, 0)) (e_L 102 (0, ei_push (0, 0) 103, 0, 0))) (e_T 103 (e_L 103 (2, e_nof, 423, 5)) (e_T 106 (e_L 106 (0, ei_push (0, 0) 107, 0, 0)) (e_L 107 (1, e_nof, 1, 0))))))))
set_option maxRecDepth 20000 in
set_option maxHeartbeats 4000000 in
theorem te_429_33_ok : ∀ pc, e_EOq eft cls elay eI n_429 pc (te_429_33 pc) :=
  (e_Tok2
  (e_Tok2
  (e_Tok2
  (e_Tok2
  (e_Tok2
  (e_Lok (ps_iconst_0 (x_dk dn_429_0_1_ok 8 rfl)))
  (e_Lok (sm_iastore (x_dk dn_429_0_1_ok 9 rfl))))
  (e_Tok2
  (e_Lok (ld_aload_n_0 (x_dk dn_429_0_1_ok 10 rfl)))
  (e_Lok (lk_12_8g ho_429 (x_dk dn_429_0_1_ok 11 rfl)))))
  (e_Tok2
  (e_Tok2
  (e_Lok (ps_sipush_20836 (x_dk dn_429_0_1_ok 12 rfl)))
  (e_Lok (ps_iconst_4 (x_dk dn_429_0_1_ok 13 rfl))))
  (e_Tok2
  (e_Lok (ld_iload_n_1 (x_dk dn_429_0_1_ok 14 rfl)))
  (e_Lok (sm_imul (x_dk dn_429_0_1_ok 15 rfl))))))
  (e_Tok2
  (e_Tok2
  (e_Tok2
  (e_Lok (sm_iadd (x_dk dn_429_0_1_ok 16 rfl)))
  (e_Lok (ps_iconst_1 (x_dk dn_429_0_1_ok 17 rfl))))
  (e_Tok2
  (e_Lok (sm_iadd (x_dk dn_429_0_1_ok 18 rfl)))
  (e_Lok (ld_iload_n_3 (x_dk dn_429_0_1_ok 19 rfl)))))
  (e_Tok2
  (e_Tok2
  (e_Lok (e_st (I := eI) (er_ifeq (off := 7) (tg := 80) (x_dk dn_429_0_1_ok 20 rfl) (by decide)) nx_if1))
  (e_Lok (ps_iconst_1 (x_dk dn_429_0_1_ok 21 rfl))))
  (e_Tok2
  (e_Lok (e_st (I := eI) (er_goto (off := 4) (tg := 81) (x_dk dn_429_0_1_ok 22 rfl) (by decide)) nx_goto))
  (e_Lok (ps_iconst_0 (x_dk dn_429_0_1_ok 23 rfl)))))))
  (e_Tok2
  (e_Tok2
  (e_Tok2
  (e_Tok2
  (e_Lok (sm_iastore (x_dk dn_429_0_1_ok 24 rfl)))
  (e_Lok (ld_aload_n_0 (x_dk dn_429_0_2_ok 0 rfl))))
  (e_Tok2
  (e_Lok (ps_iconst_4 (x_dk dn_429_0_2_ok 1 rfl)))
  (e_Lok (ld_iload_n_1 (x_dk dn_429_0_2_ok 2 rfl)))))
  (e_Tok2
  (e_Tok2
  (e_Lok (ld_iload_n_2 (x_dk dn_429_0_2_ok 3 rfl)))
  (e_Lok (e_st (I := eI) (er_ifeq (off := 7) (tg := 93) (x_dk dn_429_0_2_ok 4 rfl) (by decide)) nx_if1)))
  (e_Tok2
  (e_Lok (ps_iconst_1 (x_dk dn_429_0_2_ok 5 rfl)))
  (e_Lok (e_st (I := eI) (er_goto (off := 4) (tg := 94) (x_dk dn_429_0_2_ok 6 rfl) (by decide)) nx_goto)))))
  (e_Tok2
  (e_Tok2
  (e_Tok2
  (e_Lok (ps_iconst_0 (x_dk dn_429_0_2_ok 7 rfl)))
  (e_Lok (ld_iload_n_3 (x_dk dn_429_0_2_ok 8 rfl))))
  (e_Tok2
  (e_Lok (e_st (I := eI) (er_ifeq (off := 7) (tg := 102) (x_dk dn_429_0_2_ok 9 rfl) (by decide)) nx_if1))
  (e_Lok (ps_iconst_1 (x_dk dn_429_0_2_ok 10 rfl)))))
  (e_Tok2
  (e_Tok2
  (e_Lok (e_st (I := eI) (er_goto (off := 4) (tg := 103) (x_dk dn_429_0_2_ok 11 rfl) (by decide)) nx_goto))
  (e_Lok (ps_iconst_0 (x_dk dn_429_0_2_ok 12 rfl))))
  (e_Tok2
  (e_Lok (lk_12_866 ho_429 (x_dk dn_429_0_2_ok 13 rfl)))
  (e_Tok2
  (e_Lok (ps_iconst_0 (x_dk dn_429_0_2_ok 14 rfl)))
  (e_Lok (e_rt (I := eI) (k := 1) ⟨(x_dk dn_429_0_2_ok 15 rfl), rfl⟩))))))))
def te_429 : Nat → eE := (e_T 54 te_429_0 te_429_33)
theorem te_429_ok : ∀ pc, e_EOq eft cls elay eI n_429 pc (te_429 pc) := (e_Tok2 (te_429_0_ok) (te_429_33_ok))
theorem ho_430 : (xm_y n_430).cls = "RobotCellHouseModel" := rfl
def dn_430_0_0 : List (Nat × Instr × Nat) := [(0, .iload_n 1, 1), (1, .i2l, 1), (2, .lconst 0, 1), (3, .ldc2_w 367, 3), (6, .invokestatic 301, 3), (9, .ifCond .ne 5, 3), (12, .iconst (-1), 1), (13, .ireturn, 1), (14, .aload_n 0, 1), (15, .getfield 265, 3), (18, .ifCond .eq 22, 3), (21, .aload_n 0, 1), (22, .getfield 137, 3), (25, .iload_n 1, 1), (26, .baload, 1), (27, .ifCond .eq 13, 3), (30, .aload_n 0, 1), (31, .getfield 8, 3), (34, .iconst 1, 1), (35, .iaload, 1), (36, .iconst 1, 1), (37, .if_icmp .ne 6, 3), (40, .bipush (-2), 2), (42, .ireturn, 1), (43, .iconst 0, 1)]
set_option maxRecDepth 20000 in
theorem dn_430_0_0_ok : dn_430_0_0.all (fun q => decide (decode (xm_b n_430) q.1 = .ok (q.2.1, q.2.2))) = true := xa_g_ok (by decide +kernel)
def dn_430_0_1 : List (Nat × Instr × Nat) := [(44, .istore_n 2, 1), (45, .iload_n 2, 1), (46, .aload_n 0, 1), (47, .getfield 285, 3), (50, .if_icmp .ge 44, 3), (53, .aload_n 0, 1), (54, .getfield 8, 3), (57, .sipush 20836, 3), (60, .iconst 4, 1), (61, .iload_n 2, 1), (62, .imul, 1), (63, .iadd, 1), (64, .iaload, 1), (65, .ifCond .eq 20, 3), (68, .aload_n 0, 1), (69, .getfield 8, 3), (72, .sipush 20836, 3), (75, .iconst 4, 1), (76, .iload_n 2, 1), (77, .imul, 1), (78, .iadd, 1), (79, .iconst 1, 1), (80, .iadd, 1), (81, .iaload, 1), (82, .ifCond .ne 6, 3)]
set_option maxRecDepth 20000 in
theorem dn_430_0_1_ok : dn_430_0_1.all (fun q => decide (decode (xm_b n_430) q.1 = .ok (q.2.1, q.2.2))) = true := xa_g_ok (by decide +kernel)
def dn_430_0_2 : List (Nat × Instr × Nat) := [(85, .bipush (-2), 2), (87, .ireturn, 1), (88, .iinc 2 1, 3), (91, .goto (-46), 3), (94, .aload_n 0, 1), (95, .invokevirtual 863, 3), (98, .ifCond .eq 6, 3), (101, .bipush (-3), 2), (103, .ireturn, 1), (104, .iconst 0, 1), (105, .istore_n 2, 1), (106, .iload_n 2, 1), (107, .aload_n 0, 1), (108, .getfield 285, 3), (111, .if_icmp .ge 24, 3), (114, .aload_n 0, 1), (115, .getfield 8, 3), (118, .sipush 20836, 3), (121, .iconst 4, 1), (122, .iload_n 2, 1), (123, .imul, 1), (124, .iadd, 1), (125, .iconst 3, 1), (126, .iadd, 1), (127, .iconst 0, 1)]
set_option maxRecDepth 20000 in
theorem dn_430_0_2_ok : dn_430_0_2.all (fun q => decide (decode (xm_b n_430) q.1 = .ok (q.2.1, q.2.2))) = true := xa_g_ok (by decide +kernel)
def dn_430_0_3 : List (Nat × Instr × Nat) := [(128, .iastore, 1), (129, .iinc 2 1, 3), (132, .goto (-26), 3), (135, .aload_n 0, 1), (136, .getfield 8, 3), (139, .iconst 1, 1), (140, .iconst 1, 1), (141, .iastore, 1), (142, .aload_n 0, 1), (143, .iconst 3, 1), (144, .iload_n 1, 1), (145, .iconst 0, 1), (146, .invokevirtual 693, 3), (149, .aload_n 0, 1), (150, .iconst 5, 1), (151, .iload_n 1, 1), (152, .iconst 0, 1), (153, .iconst 0, 1), (154, .invokevirtual 866, 3), (157, .iconst 1, 1), (158, .ireturn, 1)]
set_option maxRecDepth 20000 in
theorem dn_430_0_3_ok : dn_430_0_3.all (fun q => decide (decode (xm_b n_430) q.1 = .ok (q.2.1, q.2.2))) = true := xa_g_ok (by decide +kernel)
def te_430_0 : Nat → eE := (e_T 21 (e_T 9 (e_T 2 (e_T 0 (e_L 0 (0, ei_load 1 0 1, 0, 0)) (e_T 1 (e_L 1 (0, ei_un (fun x => (4, x)) 2, 0, 0)) (e_L 2 (0, ei_push (4, 0) 3, 0, 0)))) (e_T 3 (e_L 3 (0, ei_push (4, 7) 6, 0, 0)) (e_T 6 (e_L 6 (2, e_nof, 266, 3)) (e_L 9 (0, ei_if1 1 14 12, 0, 0))))) (e_T 14 (e_T 12 (e_L 12 (0, ei_push (0, (-1)) 13, 0, 0)) (e_T 13 (e_L 13 (1, e_nof, 1, 0)) (e_L 14 (0, ei_load 0 2 15, 0, 0)))) (e_T 15 (e_L 15 (0, ei_getf eft elay 12 3 18, 0, 0)) (e_T 18 (e_L 18 (0, ei_if1 0 40 21, 0, 0)) (e_L 21 (0, ei_load 0 2 22, 0, 0)))))) (e_T 31 (e_T 26 (e_T 22 (e_L 22 (0, ei_getf eft elay 12 51 25, 0, 0)) (e_T 25 (e_L 25 (0, ei_load 1 0 26, 0, 0)) (e_L 26 (0, ei_ald elay true 27, 0, 0)))) (e_T 27 (e_L 27 (0, ei_if1 0 40 30, 0, 0)) (e_T 30 (e_L 30 (0, ei_load 0 2 31, 0, 0)) (e_L 31 (0, ei_getf eft elay 12 0 34, 0, 0))))) (e_T 36 (e_T 34 (e_L 34 (0, ei_push (0, 1) 35, 0, 0)) (e_T 35 (e_L 35 (0, ei_ald elay false 36, 0, 0)) (e_L 36 (0, ei_push (0, 1) 37, 0, 0)))) (e_T 37 (e_L 37 (0, ei_if2 1 43 40, 0, 0)) (e_T 40 (e_L 40 (0, ei_push (0, (-2)) 42, 0, 0)) (e_L 42 (1, e_nof, 1, 0)))))))
set_option maxRecDepth 20000 in
set_option maxHeartbeats 4000000 in
theorem te_430_0_ok : ∀ pc, e_EOq eft cls elay eI n_430 pc (te_430_0 pc) :=
  (e_Tok2
  (e_Tok2
  (e_Tok2
  (e_Tok2
  (e_Lok (ld_iload_n_1 (x_dk dn_430_0_0_ok 0 rfl)))
  (e_Tok2
  (e_Lok (e_st (I := eI) (er_i2l (x_dk dn_430_0_0_ok 1 rfl)) (nx_un (fun _ => rfl))))
  (e_Lok (ps_lconst_0 (x_dk dn_430_0_0_ok 2 rfl)))))
  (e_Tok2
  (e_Lok (e_st (I := eI) (er_ldc2 (ix := 367) (z := 7) (v := 7) (x_dk dn_430_0_0_ok 3 rfl) (in_t11 (List.mem_of_getElem? (i := 120) rfl) rfl) (by decide)) (nx_push (Or.inl rfl))))
  (e_Tok2
  (e_Lok (lk_12_301 ho_430 (x_dk dn_430_0_0_ok 4 rfl)))
  (e_Lok (e_st (I := eI) (er_ifne (off := 5) (tg := 14) (x_dk dn_430_0_0_ok 5 rfl) (by decide)) nx_if1)))))
  (e_Tok2
  (e_Tok2
  (e_Lok (ps_iconst_m1 (x_dk dn_430_0_0_ok 6 rfl)))
  (e_Tok2
  (e_Lok (e_rt (I := eI) (k := 1) ⟨(x_dk dn_430_0_0_ok 7 rfl), rfl⟩))
  (e_Lok (ld_aload_n_0 (x_dk dn_430_0_0_ok 8 rfl)))))
  (e_Tok2
  (e_Lok (lk_12_265g ho_430 (x_dk dn_430_0_0_ok 9 rfl)))
  (e_Tok2
  (e_Lok (e_st (I := eI) (er_ifeq (off := 22) (tg := 40) (x_dk dn_430_0_0_ok 10 rfl) (by decide)) nx_if1))
  (e_Lok (ld_aload_n_0 (x_dk dn_430_0_0_ok 11 rfl)))))))
  (e_Tok2
  (e_Tok2
  (e_Tok2
  (e_Lok (lk_12_137g ho_430 (x_dk dn_430_0_0_ok 12 rfl)))
  (e_Tok2
  (e_Lok (ld_iload_n_1 (x_dk dn_430_0_0_ok 13 rfl)))
  (e_Lok (e_st (I := eI) (er_baload (x_dk dn_430_0_0_ok 14 rfl)) nx_ald))))
  (e_Tok2
  (e_Lok (e_st (I := eI) (er_ifeq (off := 13) (tg := 40) (x_dk dn_430_0_0_ok 15 rfl) (by decide)) nx_if1))
  (e_Tok2
  (e_Lok (ld_aload_n_0 (x_dk dn_430_0_0_ok 16 rfl)))
  (e_Lok (lk_12_8g ho_430 (x_dk dn_430_0_0_ok 17 rfl))))))
  (e_Tok2
  (e_Tok2
  (e_Lok (ps_iconst_1 (x_dk dn_430_0_0_ok 18 rfl)))
  (e_Tok2
  (e_Lok (sm_iaload (x_dk dn_430_0_0_ok 19 rfl)))
  (e_Lok (ps_iconst_1 (x_dk dn_430_0_0_ok 20 rfl)))))
  (e_Tok2
  (e_Lok (e_st (I := eI) (er_icmpne (off := 6) (tg := 43) (x_dk dn_430_0_0_ok 21 rfl) (by decide)) nx_if2))
  (e_Tok2
  (e_Lok (ps_bipush_m2 (x_dk dn_430_0_0_ok 22 rfl)))
  (e_Lok (e_rt (I := eI) (k := 1) ⟨(x_dk dn_430_0_0_ok 23 rfl), rfl⟩)))))))
def te_430_24 : Nat → eE := (e_T 62 (e_T 50 (e_T 45 (e_T 43 (e_L 43 (0, ei_push (0, 0) 44, 0, 0)) (e_T 44 (e_L 44 (0, ei_stor 2 0 45, 0, 0)) (e_L 45 (0, ei_load 2 0 46, 0, 0)))) (e_T 46 (e_L 46 (0, ei_load 0 2 47, 0, 0)) (e_T 47 (e_L 47 (0, ei_getf eft elay 12 49 50, 0, 0)) (e_L 50 (0, ei_if2 3 94 53, 0, 0))))) (e_T 57 (e_T 53 (e_L 53 (0, ei_load 0 2 54, 0, 0)) (e_T 54 (e_L 54 (0, ei_getf eft elay 12 0 57, 0, 0)) (e_L 57 (0, ei_push (0, 20836) 60, 0, 0)))) (e_T 60 (e_L 60 (0, ei_push (0, 4) 61, 0, 0)) (e_T 61 (e_L 61 (0, ei_load 2 0 62, 0, 0)) (e_L 62 (0, ei_bin eF_mul 63, 0, 0)))))) (e_T 72 (e_T 65 (e_T 63 (e_L 63 (0, ei_bin eF_add 64, 0, 0)) (e_T 64 (e_L 64 (0, ei_ald elay false 65, 0, 0)) (e_L 65 (0, ei_if1 0 85 68, 0, 0)))) (e_T 68 (e_L 68 (0, ei_load 0 2 69, 0, 0)) (e_T 69 (e_L 69 (0, ei_getf eft elay 12 0 72, 0, 0)) (e_L 72 (0, ei_push (0, 20836) 75, 0, 0))))) (e_T 77 (e_T 75 (e_L 75 (0, ei_push (0, 4) 76, 0, 0)) (e_T 76 (e_L 76 (0, ei_load 2 0 77, 0, 0)) (e_L 77 (0, ei_bin eF_mul 78, 0, 0)))) (e_T 78 (e_L 78 (0, ei_bin eF_add 79, 0, 0)) (e_T 79 (e_L 79 (0, ei_push (0, 1) 80, 0, 0)) (e_L 80 (0, ei_bin eF_add 81, 0, 0)))))))
set_option maxRecDepth 20000 in
set_option maxHeartbeats 4000000 in
theorem te_430_24_ok : ∀ pc, e_EOq eft cls elay eI n_430 pc (te_430_24 pc) :=
  (e_Tok2
  (e_Tok2
  (e_Tok2
  (e_Tok2
  (e_Lok (ps_iconst_0 (x_dk dn_430_0_0_ok 24 rfl)))
  (e_Tok2
  (e_Lok (e_st (I := eI) (er_istore_n (i := 2) (x_dk dn_430_0_1_ok 0 rfl) (by decide +kernel)) nx_stor))
  (e_Lok (ld_iload_n_2 (x_dk dn_430_0_1_ok 1 rfl)))))
  (e_Tok2
  (e_Lok (ld_aload_n_0 (x_dk dn_430_0_1_ok 2 rfl)))
  (e_Tok2
  (e_Lok (lk_12_285g ho_430 (x_dk dn_430_0_1_ok 3 rfl)))
  (e_Lok (e_st (I := eI) (er_icmpge (off := 44) (tg := 94) (x_dk dn_430_0_1_ok 4 rfl) (by decide)) nx_if2)))))
  (e_Tok2
  (e_Tok2
  (e_Lok (ld_aload_n_0 (x_dk dn_430_0_1_ok 5 rfl)))
  (e_Tok2
  (e_Lok (lk_12_8g ho_430 (x_dk dn_430_0_1_ok 6 rfl)))
  (e_Lok (ps_sipush_20836 (x_dk dn_430_0_1_ok 7 rfl)))))
  (e_Tok2
  (e_Lok (ps_iconst_4 (x_dk dn_430_0_1_ok 8 rfl)))
  (e_Tok2
  (e_Lok (ld_iload_n_2 (x_dk dn_430_0_1_ok 9 rfl)))
  (e_Lok (sm_imul (x_dk dn_430_0_1_ok 10 rfl)))))))
  (e_Tok2
  (e_Tok2
  (e_Tok2
  (e_Lok (sm_iadd (x_dk dn_430_0_1_ok 11 rfl)))
  (e_Tok2
  (e_Lok (sm_iaload (x_dk dn_430_0_1_ok 12 rfl)))
  (e_Lok (e_st (I := eI) (er_ifeq (off := 20) (tg := 85) (x_dk dn_430_0_1_ok 13 rfl) (by decide)) nx_if1))))
  (e_Tok2
  (e_Lok (ld_aload_n_0 (x_dk dn_430_0_1_ok 14 rfl)))
  (e_Tok2
  (e_Lok (lk_12_8g ho_430 (x_dk dn_430_0_1_ok 15 rfl)))
  (e_Lok (ps_sipush_20836 (x_dk dn_430_0_1_ok 16 rfl))))))
  (e_Tok2
  (e_Tok2
  (e_Lok (ps_iconst_4 (x_dk dn_430_0_1_ok 17 rfl)))
  (e_Tok2
  (e_Lok (ld_iload_n_2 (x_dk dn_430_0_1_ok 18 rfl)))
  (e_Lok (sm_imul (x_dk dn_430_0_1_ok 19 rfl)))))
  (e_Tok2
  (e_Lok (sm_iadd (x_dk dn_430_0_1_ok 20 rfl)))
  (e_Tok2
  (e_Lok (ps_iconst_1 (x_dk dn_430_0_1_ok 21 rfl)))
  (e_Lok (sm_iadd (x_dk dn_430_0_1_ok 22 rfl))))))))
def te_430_48 : Nat → eE := (e_T 104 (e_T 91 (e_T 85 (e_T 81 (e_L 81 (0, ei_ald elay false 82, 0, 0)) (e_T 82 (e_L 82 (0, ei_if1 1 88 85, 0, 0)) (e_L 85 (0, ei_push (0, (-2)) 87, 0, 0)))) (e_T 87 (e_L 87 (1, e_nof, 1, 0)) (e_T 88 (e_L 88 (0, ei_inc 2 1 91, 0, 0)) (e_L 91 (0, ei_goto 45, 0, 0))))) (e_T 98 (e_T 94 (e_L 94 (0, ei_load 0 2 95, 0, 0)) (e_T 95 (e_L 95 (2, e_nof, 422, 1)) (e_L 98 (0, ei_if1 0 104 101, 0, 0)))) (e_T 101 (e_L 101 (0, ei_push (0, (-3)) 103, 0, 0)) (e_T 103 (e_L 103 (1, e_nof, 1, 0)) (e_L 104 (0, ei_push (0, 0) 105, 0, 0)))))) (e_T 114 (e_T 107 (e_T 105 (e_L 105 (0, ei_stor 2 0 106, 0, 0)) (e_T 106 (e_L 106 (0, ei_load 2 0 107, 0, 0)) (e_L 107 (0, ei_load 0 2 108, 0, 0)))) (e_T 108 (e_L 108 (0, ei_getf eft elay 12 49 111, 0, 0)) (e_T 111 (e_L 111 (0, ei_if2 3 135 114, 0, 0)) (e_L 114 (0, ei_load 0 2 115, 0, 0))))) (e_T 121 (e_T 115 (e_L 115 (0, ei_getf eft elay 12 0 118, 0, 0)) (e_T 118 (e_L 118 (0, ei_push (0, 20836) 121, 0, 0)) (e_L 121 (0, ei_push (0, 4) 122, 0, 0)))) (e_T 122 (e_L 122 (0, ei_load 2 0 123, 0, 0)) (e_T 123 (e_L 123 (0, ei_bin eF_mul 124, 0, 0)) (e_L 124 (0, ei_bin eF_add 125, 0, 0)))))))
set_option maxRecDepth 20000 in
set_option maxHeartbeats 4000000 in
theorem te_430_48_ok : ∀ pc, e_EOq eft cls elay eI n_430 pc (te_430_48 pc) :=
  (e_Tok2
  (e_Tok2
  (e_Tok2
  (e_Tok2
  (e_Lok (sm_iaload (x_dk dn_430_0_1_ok 23 rfl)))
  (e_Tok2
  (e_Lok (e_st (I := eI) (er_ifne (off := 6) (tg := 88) (x_dk dn_430_0_1_ok 24 rfl) (by decide)) nx_if1))
  (e_Lok (ps_bipush_m2 (x_dk dn_430_0_2_ok 0 rfl)))))
  (e_Tok2
  (e_Lok (e_rt (I := eI) (k := 1) ⟨(x_dk dn_430_0_2_ok 1 rfl), rfl⟩))
  (e_Tok2
  (e_Lok (e_st (I := eI) (er_iinc (i := 2) (n := 1) (x_dk dn_430_0_2_ok 2 rfl) (by decide +kernel) (by decide)) nx_inc))
  (e_Lok (e_st (I := eI) (er_goto (off := (-46)) (tg := 45) (x_dk dn_430_0_2_ok 3 rfl) (by decide)) nx_goto)))))
  (e_Tok2
  (e_Tok2
  (e_Lok (ld_aload_n_0 (x_dk dn_430_0_2_ok 4 rfl)))
  (e_Tok2
  (e_Lok (lk_12_863 ho_430 (x_dk dn_430_0_2_ok 5 rfl)))
  (e_Lok (e_st (I := eI) (er_ifeq (off := 6) (tg := 104) (x_dk dn_430_0_2_ok 6 rfl) (by decide)) nx_if1))))
  (e_Tok2
  (e_Lok (ps_bipush_m3 (x_dk dn_430_0_2_ok 7 rfl)))
  (e_Tok2
  (e_Lok (e_rt (I := eI) (k := 1) ⟨(x_dk dn_430_0_2_ok 8 rfl), rfl⟩))
  (e_Lok (ps_iconst_0 (x_dk dn_430_0_2_ok 9 rfl)))))))
  (e_Tok2
  (e_Tok2
  (e_Tok2
  (e_Lok (e_st (I := eI) (er_istore_n (i := 2) (x_dk dn_430_0_2_ok 10 rfl) (by decide +kernel)) nx_stor))
  (e_Tok2
  (e_Lok (ld_iload_n_2 (x_dk dn_430_0_2_ok 11 rfl)))
  (e_Lok (ld_aload_n_0 (x_dk dn_430_0_2_ok 12 rfl)))))
  (e_Tok2
  (e_Lok (lk_12_285g ho_430 (x_dk dn_430_0_2_ok 13 rfl)))
  (e_Tok2
  (e_Lok (e_st (I := eI) (er_icmpge (off := 24) (tg := 135) (x_dk dn_430_0_2_ok 14 rfl) (by decide)) nx_if2))
  (e_Lok (ld_aload_n_0 (x_dk dn_430_0_2_ok 15 rfl))))))
  (e_Tok2
  (e_Tok2
  (e_Lok (lk_12_8g ho_430 (x_dk dn_430_0_2_ok 16 rfl)))
  (e_Tok2
  (e_Lok (ps_sipush_20836 (x_dk dn_430_0_2_ok 17 rfl)))
  (e_Lok (ps_iconst_4 (x_dk dn_430_0_2_ok 18 rfl)))))
  (e_Tok2
  (e_Lok (ld_iload_n_2 (x_dk dn_430_0_2_ok 19 rfl)))
  (e_Tok2
  (e_Lok (sm_imul (x_dk dn_430_0_2_ok 20 rfl)))
  (e_Lok (sm_iadd (x_dk dn_430_0_2_ok 21 rfl))))))))
def te_430_72 : Nat → eE := (e_T 142 (e_T 132 (e_T 127 (e_T 125 (e_L 125 (0, ei_push (0, 3) 126, 0, 0)) (e_T 126 (e_L 126 (0, ei_bin eF_add 127, 0, 0)) (e_L 127 (0, ei_push (0, 0) 128, 0, 0)))) (e_T 128 (e_L 128 (0, ei_ast elay false 129, 0, 0)) (e_T 129 (e_L 129 (0, ei_inc 2 1 132, 0, 0)) (e_L 132 (0, ei_goto 106, 0, 0))))) (e_T 139 (e_T 135 (e_L 135 (0, ei_load 0 2 136, 0, 0)) (e_T 136 (e_L 136 (0, ei_getf eft elay 12 0 139, 0, 0)) (e_L 139 (0, ei_push (0, 1) 140, 0, 0)))) (e_T 140 (e_L 140 (0, ei_push (0, 1) 141, 0, 0)) (e_T 141 (e_L 141 (0, ei_ast elay false 142, 0, 0)) (e_L 142 (0, ei_load 0 2 143, 0, 0)))))) (e_T 150 (e_T 145 (e_T 143 (e_L 143 (0, ei_push (0, 3) 144, 0, 0)) (e_T 144 (e_L 144 (0, ei_load 1 0 145, 0, 0)) (e_L 145 (0, ei_push (0, 0) 146, 0, 0)))) (e_T 146 (e_L 146 (2, e_nof, 319, 4)) (e_T 149 (e_L 149 (0, ei_load 0 2 150, 0, 0)) (e_L 150 (0, ei_push (0, 5) 151, 0, 0))))) (e_T 153 (e_T 151 (e_L 151 (0, ei_load 1 0 152, 0, 0)) (e_T 152 (e_L 152 (0, ei_push (0, 0) 153, 0, 0)) (e_L 153 (0, ei_push (0, 0) 154, 0, 0)))) (e_T 154 (e_L 154 (2, e_nof, 423, 5)) (e_T 157 (e_L 157 (0, ei_push (0, 1) 158, 0, 0)) (e_L 158 (1, e_nof, 1, 0)))))))
set_option maxRecDepth 20000 in
set_option maxHeartbeats 4000000 in
theorem te_430_72_ok : ∀ pc, e_EOq eft cls elay eI n_430 pc (te_430_72 pc) :=
  (e_Tok2
  (e_Tok2
  (e_Tok2
  (e_Tok2
  (e_Lok (ps_iconst_3 (x_dk dn_430_0_2_ok 22 rfl)))
  (e_Tok2
  (e_Lok (sm_iadd (x_dk dn_430_0_2_ok 23 rfl)))
  (e_Lok (ps_iconst_0 (x_dk dn_430_0_2_ok 24 rfl)))))
  (e_Tok2
  (e_Lok (sm_iastore (x_dk dn_430_0_3_ok 0 rfl)))
  (e_Tok2
  (e_Lok (e_st (I := eI) (er_iinc (i := 2) (n := 1) (x_dk dn_430_0_3_ok 1 rfl) (by decide +kernel) (by decide)) nx_inc))
  (e_Lok (e_st (I := eI) (er_goto (off := (-26)) (tg := 106) (x_dk dn_430_0_3_ok 2 rfl) (by decide)) nx_goto)))))
  (e_Tok2
  (e_Tok2
  (e_Lok (ld_aload_n_0 (x_dk dn_430_0_3_ok 3 rfl)))
  (e_Tok2
  (e_Lok (lk_12_8g ho_430 (x_dk dn_430_0_3_ok 4 rfl)))
  (e_Lok (ps_iconst_1 (x_dk dn_430_0_3_ok 5 rfl)))))
  (e_Tok2
  (e_Lok (ps_iconst_1 (x_dk dn_430_0_3_ok 6 rfl)))
  (e_Tok2
  (e_Lok (sm_iastore (x_dk dn_430_0_3_ok 7 rfl)))
  (e_Lok (ld_aload_n_0 (x_dk dn_430_0_3_ok 8 rfl)))))))
  (e_Tok2
  (e_Tok2
  (e_Tok2
  (e_Lok (ps_iconst_3 (x_dk dn_430_0_3_ok 9 rfl)))
  (e_Tok2
  (e_Lok (ld_iload_n_1 (x_dk dn_430_0_3_ok 10 rfl)))
  (e_Lok (ps_iconst_0 (x_dk dn_430_0_3_ok 11 rfl)))))
  (e_Tok2
  (e_Lok (lk_12_693 ho_430 (x_dk dn_430_0_3_ok 12 rfl)))
  (e_Tok2
  (e_Lok (ld_aload_n_0 (x_dk dn_430_0_3_ok 13 rfl)))
  (e_Lok (ps_iconst_5 (x_dk dn_430_0_3_ok 14 rfl))))))
  (e_Tok2
  (e_Tok2
  (e_Lok (ld_iload_n_1 (x_dk dn_430_0_3_ok 15 rfl)))
  (e_Tok2
  (e_Lok (ps_iconst_0 (x_dk dn_430_0_3_ok 16 rfl)))
  (e_Lok (ps_iconst_0 (x_dk dn_430_0_3_ok 17 rfl)))))
  (e_Tok2
  (e_Lok (lk_12_866 ho_430 (x_dk dn_430_0_3_ok 18 rfl)))
  (e_Tok2
  (e_Lok (ps_iconst_1 (x_dk dn_430_0_3_ok 19 rfl)))
  (e_Lok (e_rt (I := eI) (k := 1) ⟨(x_dk dn_430_0_3_ok 20 rfl), rfl⟩)))))))
def te_430 : Nat → eE := (e_T 80 (e_T 42 te_430_0 te_430_24) (e_T 124 te_430_48 te_430_72))
theorem te_430_ok : ∀ pc, e_EOq eft cls elay eI n_430 pc (te_430 pc) := (e_Tok2 ((e_Tok2 (te_430_0_ok) (te_430_24_ok))) ((e_Tok2 (te_430_48_ok) (te_430_72_ok))))
theorem ho_431 : (xm_y n_431).cls = "RobotCellHouseModel" := rfl
def dn_431_0_0 : List (Nat × Instr × Nat) := [(0, .iload_n 1, 1), (1, .iconst (-1), 1), (2, .if_icmp .eq 13, 3), (5, .aload_n 0, 1), (6, .iload_n 1, 1), (7, .invokevirtual 305, 3), (10, .ifCond .ne 5, 3), (13, .iconst (-1), 1), (14, .ireturn, 1), (15, .aload_n 0, 1), (16, .getfield 265, 3), (19, .ifCond .eq 17, 3), (22, .iload_n 1, 1), (23, .iconst (-1), 1), (24, .if_icmp .ne 15, 3), (27, .aload_n 0, 1), (28, .getfield 8, 3), (31, .iconst 1, 1), (32, .iaload, 1), (33, .ifCond .ne 6, 3), (36, .bipush (-2), 2), (38, .ireturn, 1), (39, .aload_n 0, 1), (40, .invokevirtual 863, 3), (43, .ifCond .eq 6, 3)]
set_option maxRecDepth 20000 in
theorem dn_431_0_0_ok : dn_431_0_0.all (fun q => decide (decode (xm_b n_431) q.1 = .ok (q.2.1, q.2.2))) = true := xa_g_ok (by decide +kernel)
def dn_431_0_1 : List (Nat × Instr × Nat) := [(46, .bipush (-3), 2), (48, .ireturn, 1), (49, .iconst 0, 1), (50, .istore_n 2, 1), (51, .iload_n 1, 1), (52, .iconst (-1), 1), (53, .if_icmp .ne 12, 3), (56, .aload_n 0, 1), (57, .iconst 4, 1), (58, .iconst 0, 1), (59, .invokevirtual 789, 3), (62, .goto 20, 3), (65, .aload_n 0, 1), (66, .getfield 8, 3), (69, .iload_n 1, 1), (70, .invokestatic 294, 3), (73, .iconst 0, 1), (74, .iadd, 1), (75, .iaload, 1), (76, .istore_n 2, 1), (77, .aload_n 0, 1), (78, .iload_n 1, 1), (79, .invokevirtual 699, 3), (82, .aload_n 0, 1), (83, .bipush 6, 2)]
set_option maxRecDepth 20000 in
theorem dn_431_0_1_ok : dn_431_0_1.all (fun q => decide (decode (xm_b n_431) q.1 = .ok (q.2.1, q.2.2))) = true := xa_g_ok (by decide +kernel)
def dn_431_0_2 : List (Nat × Instr × Nat) := [(85, .iload_n 1, 1), (86, .iconst 0, 1), (87, .iconst 0, 1), (88, .invokevirtual 866, 3), (91, .iload_n 2, 1), (92, .ireturn, 1)]
set_option maxRecDepth 20000 in
theorem dn_431_0_2_ok : dn_431_0_2.all (fun q => decide (decode (xm_b n_431) q.1 = .ok (q.2.1, q.2.2))) = true := xa_g_ok (by decide +kernel)
def te_431_0 : Nat → eE := (e_T 23 (e_T 10 (e_T 2 (e_T 0 (e_L 0 (0, ei_load 1 0 1, 0, 0)) (e_T 1 (e_L 1 (0, ei_push (0, (-1)) 2, 0, 0)) (e_L 2 (0, ei_if2 0 15 5, 0, 0)))) (e_T 6 (e_T 5 (e_L 5 (0, ei_load 0 2 6, 0, 0)) (e_L 6 (0, ei_load 1 0 7, 0, 0))) (e_T 7 (e_L 7 (2, e_nof, 270, 2)) (e_L 10 (0, ei_if1 1 15 13, 0, 0))))) (e_T 15 (e_T 13 (e_L 13 (0, ei_push (0, (-1)) 14, 0, 0)) (e_T 14 (e_L 14 (1, e_nof, 1, 0)) (e_L 15 (0, ei_load 0 2 16, 0, 0)))) (e_T 19 (e_T 16 (e_L 16 (0, ei_getf eft elay 12 3 19, 0, 0)) (e_L 19 (0, ei_if1 0 36 22, 0, 0))) (e_T 22 (e_L 22 (0, ei_load 1 0 23, 0, 0)) (e_L 23 (0, ei_push (0, (-1)) 24, 0, 0)))))) (e_T 36 (e_T 28 (e_T 24 (e_L 24 (0, ei_if2 1 39 27, 0, 0)) (e_T 27 (e_L 27 (0, ei_load 0 2 28, 0, 0)) (e_L 28 (0, ei_getf eft elay 12 0 31, 0, 0)))) (e_T 32 (e_T 31 (e_L 31 (0, ei_push (0, 1) 32, 0, 0)) (e_L 32 (0, ei_ald elay false 33, 0, 0))) (e_T 33 (e_L 33 (0, ei_if1 1 39 36, 0, 0)) (e_L 36 (0, ei_push (0, (-2)) 38, 0, 0))))) (e_T 40 (e_T 38 (e_L 38 (1, e_nof, 1, 0)) (e_T 39 (e_L 39 (0, ei_load 0 2 40, 0, 0)) (e_L 40 (2, e_nof, 422, 1)))) (e_T 46 (e_T 43 (e_L 43 (0, ei_if1 0 49 46, 0, 0)) (e_L 46 (0, ei_push (0, (-3)) 48, 0, 0))) (e_T 48 (e_L 48 (1, e_nof, 1, 0)) (e_L 49 (0, ei_push (0, 0) 50, 0, 0)))))))
set_option maxRecDepth 20000 in
set_option maxHeartbeats 4000000 in
theorem te_431_0_ok : ∀ pc, e_EOq eft cls elay eI n_431 pc (te_431_0 pc) :=
  (e_Tok2
  (e_Tok2
  (e_Tok2
  (e_Tok2
  (e_Lok (ld_iload_n_1 (x_dk dn_431_0_0_ok 0 rfl)))
  (e_Tok2
  (e_Lok (ps_iconst_m1 (x_dk dn_431_0_0_ok 1 rfl)))
  (e_Lok (e_st (I := eI) (er_icmpeq (off := 13) (tg := 15) (x_dk dn_431_0_0_ok 2 rfl) (by decide)) nx_if2))))
  (e_Tok2
  (e_Tok2
  (e_Lok (ld_aload_n_0 (x_dk dn_431_0_0_ok 3 rfl)))
  (e_Lok (ld_iload_n_1 (x_dk dn_431_0_0_ok 4 rfl))))
  (e_Tok2
  (e_Lok (lk_12_305 ho_431 (x_dk dn_431_0_0_ok 5 rfl)))
  (e_Lok (e_st (I := eI) (er_ifne (off := 5) (tg := 15) (x_dk dn_431_0_0_ok 6 rfl) (by decide)) nx_if1)))))
  (e_Tok2
  (e_Tok2
  (e_Lok (ps_iconst_m1 (x_dk dn_431_0_0_ok 7 rfl)))
  (e_Tok2
  (e_Lok (e_rt (I := eI) (k := 1) ⟨(x_dk dn_431_0_0_ok 8 rfl), rfl⟩))
  (e_Lok (ld_aload_n_0 (x_dk dn_431_0_0_ok 9 rfl)))))
  (e_Tok2
  (e_Tok2
  (e_Lok (lk_12_265g ho_431 (x_dk dn_431_0_0_ok 10 rfl)))
  (e_Lok (e_st (I := eI) (er_ifeq (off := 17) (tg := 36) (x_dk dn_431_0_0_ok 11 rfl) (by decide)) nx_if1)))
  (e_Tok2
  (e_Lok (ld_iload_n_1 (x_dk dn_431_0_0_ok 12 rfl)))
  (e_Lok (ps_iconst_m1 (x_dk dn_431_0_0_ok 13 rfl)))))))
  (e_Tok2
  (e_Tok2
  (e_Tok2
  (e_Lok (e_st (I := eI) (er_icmpne (off := 15) (tg := 39) (x_dk dn_431_0_0_ok 14 rfl) (by decide)) nx_if2))
  (e_Tok2
  (e_Lok (ld_aload_n_0 (x_dk dn_431_0_0_ok 15 rfl)))
  (e_Lok (lk_12_8g ho_431 (x_dk dn_431_0_0_ok 16 rfl)))))
  (e_Tok2
  (e_Tok2
  (e_Lok (ps_iconst_1 (x_dk dn_431_0_0_ok 17 rfl)))
  (e_Lok (sm_iaload (x_dk dn_431_0_0_ok 18 rfl))))
  (e_Tok2
  (e_Lok (e_st (I := eI) (er_ifne (off := 6) (tg := 39) (x_dk dn_431_0_0_ok 19 rfl) (by decide)) nx_if1))
  (e_Lok (ps_bipush_m2 (x_dk dn_431_0_0_ok 20 rfl))))))
  (e_Tok2
  (e_Tok2
  (e_Lok (e_rt (I := eI) (k := 1) ⟨(x_dk dn_431_0_0_ok 21 rfl), rfl⟩))
  (e_Tok2
  (e_Lok (ld_aload_n_0 (x_dk dn_431_0_0_ok 22 rfl)))
  (e_Lok (lk_12_863 ho_431 (x_dk dn_431_0_0_ok 23 rfl)))))
  (e_Tok2
  (e_Tok2
  (e_Lok (e_st (I := eI) (er_ifeq (off := 6) (tg := 49) (x_dk dn_431_0_0_ok 24 rfl) (by decide)) nx_if1))
  (e_Lok (ps_bipush_m3 (x_dk dn_431_0_1_ok 0 rfl))))
  (e_Tok2
  (e_Lok (e_rt (I := eI) (k := 1) ⟨(x_dk dn_431_0_1_ok 1 rfl), rfl⟩))
  (e_Lok (ps_iconst_0 (x_dk dn_431_0_1_ok 2 rfl))))))))
def te_431_28 : Nat → eE := (e_T 73 (e_T 58 (e_T 52 (e_T 50 (e_L 50 (0, ei_stor 2 0 51, 0, 0)) (e_T 51 (e_L 51 (0, ei_load 1 0 52, 0, 0)) (e_L 52 (0, ei_push (0, (-1)) 53, 0, 0)))) (e_T 56 (e_T 53 (e_L 53 (0, ei_if2 1 65 56, 0, 0)) (e_L 56 (0, ei_load 0 2 57, 0, 0))) (e_T 57 (e_L 57 (0, ei_push (0, 4) 58, 0, 0)) (e_L 58 (0, ei_push (0, 0) 59, 0, 0))))) (e_T 65 (e_T 59 (e_L 59 (2, e_nof, 385, 3)) (e_T 62 (e_L 62 (0, ei_goto 82, 0, 0)) (e_L 65 (0, ei_load 0 2 66, 0, 0)))) (e_T 69 (e_T 66 (e_L 66 (0, ei_getf eft elay 12 0 69, 0, 0)) (e_L 69 (0, ei_load 1 0 70, 0, 0))) (e_T 70 (e_L 70 (2, e_nof, 268, 1)) (e_L 73 (0, ei_push (0, 0) 74, 0, 0)))))) (e_T 82 (e_T 76 (e_T 74 (e_L 74 (0, ei_bin eF_add 75, 0, 0)) (e_T 75 (e_L 75 (0, ei_ald elay false 76, 0, 0)) (e_L 76 (0, ei_stor 2 0 77, 0, 0)))) (e_T 78 (e_T 77 (e_L 77 (0, ei_load 0 2 78, 0, 0)) (e_L 78 (0, ei_load 1 0 79, 0, 0))) (e_T 79 (e_L 79 (2, e_nof, 384, 2)) (e_L 82 (0, ei_load 0 2 83, 0, 0))))) (e_T 86 (e_T 83 (e_L 83 (0, ei_push (0, 6) 85, 0, 0)) (e_T 85 (e_L 85 (0, ei_load 1 0 86, 0, 0)) (e_L 86 (0, ei_push (0, 0) 87, 0, 0)))) (e_T 88 (e_T 87 (e_L 87 (0, ei_push (0, 0) 88, 0, 0)) (e_L 88 (2, e_nof, 423, 5))) (e_T 91 (e_L 91 (0, ei_load 2 0 92, 0, 0)) (e_L 92 (1, e_nof, 1, 0)))))))
set_option maxRecDepth 20000 in
set_option maxHeartbeats 4000000 in
theorem te_431_28_ok : ∀ pc, e_EOq eft cls elay eI n_431 pc (te_431_28 pc) :=
  (e_Tok2
  (e_Tok2
  (e_Tok2
  (e_Tok2
  (e_Lok (e_st (I := eI) (er_istore_n (i := 2) (x_dk dn_431_0_1_ok 3 rfl) (by decide +kernel)) nx_stor))
  (e_Tok2
  (e_Lok (ld_iload_n_1 (x_dk dn_431_0_1_ok 4 rfl)))
  (e_Lok (ps_iconst_m1 (x_dk dn_431_0_1_ok 5 rfl)))))
  (e_Tok2
  (e_Tok2
  (e_Lok (e_st (I := eI) (er_icmpne (off := 12) (tg := 65) (x_dk dn_431_0_1_ok 6 rfl) (by decide)) nx_if2))
  (e_Lok (ld_aload_n_0 (x_dk dn_431_0_1_ok 7 rfl))))
  (e_Tok2
  (e_Lok (ps_iconst_4 (x_dk dn_431_0_1_ok 8 rfl)))
  (e_Lok (ps_iconst_0 (x_dk dn_431_0_1_ok 9 rfl))))))
  (e_Tok2
  (e_Tok2
  (e_Lok (lk_12_789 ho_431 (x_dk dn_431_0_1_ok 10 rfl)))
  (e_Tok2
  (e_Lok (e_st (I := eI) (er_goto (off := 20) (tg := 82) (x_dk dn_431_0_1_ok 11 rfl) (by decide)) nx_goto))
  (e_Lok (ld_aload_n_0 (x_dk dn_431_0_1_ok 12 rfl)))))
  (e_Tok2
  (e_Tok2
  (e_Lok (lk_12_8g ho_431 (x_dk dn_431_0_1_ok 13 rfl)))
  (e_Lok (ld_iload_n_1 (x_dk dn_431_0_1_ok 14 rfl))))
  (e_Tok2
  (e_Lok (lk_12_294 ho_431 (x_dk dn_431_0_1_ok 15 rfl)))
  (e_Lok (ps_iconst_0 (x_dk dn_431_0_1_ok 16 rfl)))))))
  (e_Tok2
  (e_Tok2
  (e_Tok2
  (e_Lok (sm_iadd (x_dk dn_431_0_1_ok 17 rfl)))
  (e_Tok2
  (e_Lok (sm_iaload (x_dk dn_431_0_1_ok 18 rfl)))
  (e_Lok (e_st (I := eI) (er_istore_n (i := 2) (x_dk dn_431_0_1_ok 19 rfl) (by decide +kernel)) nx_stor))))
  (e_Tok2
  (e_Tok2
  (e_Lok (ld_aload_n_0 (x_dk dn_431_0_1_ok 20 rfl)))
  (e_Lok (ld_iload_n_1 (x_dk dn_431_0_1_ok 21 rfl))))
  (e_Tok2
  (e_Lok (lk_12_699 ho_431 (x_dk dn_431_0_1_ok 22 rfl)))
  (e_Lok (ld_aload_n_0 (x_dk dn_431_0_1_ok 23 rfl))))))
  (e_Tok2
  (e_Tok2
  (e_Lok (ps_bipush_6 (x_dk dn_431_0_1_ok 24 rfl)))
  (e_Tok2
  (e_Lok (ld_iload_n_1 (x_dk dn_431_0_2_ok 0 rfl)))
  (e_Lok (ps_iconst_0 (x_dk dn_431_0_2_ok 1 rfl)))))
  (e_Tok2
  (e_Tok2
  (e_Lok (ps_iconst_0 (x_dk dn_431_0_2_ok 2 rfl)))
  (e_Lok (lk_12_866 ho_431 (x_dk dn_431_0_2_ok 3 rfl))))
  (e_Tok2
  (e_Lok (ld_iload_n_2 (x_dk dn_431_0_2_ok 4 rfl)))
  (e_Lok (e_rt (I := eI) (k := 1) ⟨(x_dk dn_431_0_2_ok 5 rfl), rfl⟩)))))))
def te_431 : Nat → eE := (e_T 49 te_431_0 te_431_28)
theorem te_431_ok : ∀ pc, e_EOq eft cls elay eI n_431 pc (te_431 pc) := (e_Tok2 (te_431_0_ok) (te_431_28_ok))
theorem ho_432 : (xm_y n_432).cls = "RobotCellHouseModel" := rfl
def dn_432_0_0 : List (Nat × Instr × Nat) := [(0, .aload_n 0, 1), (1, .iload_n 1, 1), (2, .invokevirtual 305, 3), (5, .ifCond .ne 5, 3), (8, .iconst (-1), 1), (9, .ireturn, 1), (10, .aload_n 0, 1), (11, .getfield 8, 3), (14, .iload_n 1, 1), (15, .invokestatic 294, 3), (18, .iconst 2, 1), (19, .iadd, 1), (20, .iaload, 1), (21, .istore_n 2, 1), (22, .aload_n 0, 1), (23, .getfield 265, 3), (26, .ifCond .eq 7, 3), (29, .iload_n 2, 1), (30, .ifCond .ge 6, 3), (33, .bipush (-2), 2), (35, .ireturn, 1), (36, .aload_n 0, 1), (37, .invokevirtual 863, 3), (40, .ifCond .eq 6, 3), (43, .bipush (-3), 2)]
set_option maxRecDepth 20000 in
theorem dn_432_0_0_ok : dn_432_0_0.all (fun q => decide (decode (xm_b n_432) q.1 = .ok (q.2.1, q.2.2))) = true := xa_g_ok (by decide +kernel)
def dn_432_0_1 : List (Nat × Instr × Nat) := [(45, .ireturn, 1), (46, .aload_n 0, 1), (47, .getfield 8, 3), (50, .iload_n 2, 1), (51, .invokestatic 298, 3), (54, .bipush 6, 2), (56, .iastore, 1), (57, .aload_n 0, 1), (58, .getfield 8, 3), (61, .iload_n 1, 1), (62, .invokestatic 294, 3), (65, .iconst 2, 1), (66, .iadd, 1), (67, .iconst (-1), 1), (68, .iastore, 1), (69, .aload_n 0, 1), (70, .bipush 7, 2), (72, .iload_n 1, 1), (73, .iconst 0, 1), (74, .iconst 0, 1), (75, .invokevirtual 866, 3), (78, .iload_n 2, 1), (79, .ireturn, 1)]
set_option maxRecDepth 20000 in
theorem dn_432_0_1_ok : dn_432_0_1.all (fun q => decide (decode (xm_b n_432) q.1 = .ok (q.2.1, q.2.2))) = true := xa_g_ok (by decide +kernel)
def te_432_0 : Nat → eE := (e_T 19 (e_T 9 (e_T 2 (e_T 0 (e_L 0 (0, ei_load 0 2 1, 0, 0)) (e_T 1 (e_L 1 (0, ei_load 1 0 2, 0, 0)) (e_L 2 (2, e_nof, 270, 2)))) (e_T 5 (e_L 5 (0, ei_if1 1 10 8, 0, 0)) (e_T 8 (e_L 8 (0, ei_push (0, (-1)) 9, 0, 0)) (e_L 9 (1, e_nof, 1, 0))))) (e_T 14 (e_T 10 (e_L 10 (0, ei_load 0 2 11, 0, 0)) (e_T 11 (e_L 11 (0, ei_getf eft elay 12 0 14, 0, 0)) (e_L 14 (0, ei_load 1 0 15, 0, 0)))) (e_T 15 (e_L 15 (2, e_nof, 268, 1)) (e_T 18 (e_L 18 (0, ei_push (0, 2) 19, 0, 0)) (e_L 19 (0, ei_bin eF_add 20, 0, 0)))))) (e_T 29 (e_T 22 (e_T 20 (e_L 20 (0, ei_ald elay false 21, 0, 0)) (e_T 21 (e_L 21 (0, ei_stor 2 0 22, 0, 0)) (e_L 22 (0, ei_load 0 2 23, 0, 0)))) (e_T 23 (e_L 23 (0, ei_getf eft elay 12 3 26, 0, 0)) (e_T 26 (e_L 26 (0, ei_if1 0 33 29, 0, 0)) (e_L 29 (0, ei_load 2 0 30, 0, 0))))) (e_T 35 (e_T 30 (e_L 30 (0, ei_if1 3 36 33, 0, 0)) (e_T 33 (e_L 33 (0, ei_push (0, (-2)) 35, 0, 0)) (e_L 35 (1, e_nof, 1, 0)))) (e_T 36 (e_L 36 (0, ei_load 0 2 37, 0, 0)) (e_T 37 (e_L 37 (2, e_nof, 422, 1)) (e_L 40 (0, ei_if1 0 46 43, 0, 0)))))))
set_option maxRecDepth 20000 in
set_option maxHeartbeats 4000000 in
theorem te_432_0_ok : ∀ pc, e_EOq eft cls elay eI n_432 pc (te_432_0 pc) :=
  (e_Tok2
  (e_Tok2
  (e_Tok2
  (e_Tok2
  (e_Lok (ld_aload_n_0 (x_dk dn_432_0_0_ok 0 rfl)))
  (e_Tok2
  (e_Lok (ld_iload_n_1 (x_dk dn_432_0_0_ok 1 rfl)))
  (e_Lok (lk_12_305 ho_432 (x_dk dn_432_0_0_ok 2 rfl)))))
  (e_Tok2
  (e_Lok (e_st (I := eI) (er_ifne (off := 5) (tg := 10) (x_dk dn_432_0_0_ok 3 rfl) (by decide)) nx_if1))
  (e_Tok2
  (e_Lok (ps_iconst_m1 (x_dk dn_432_0_0_ok 4 rfl)))
  (e_Lok (e_rt (I := eI) (k := 1) ⟨(x_dk dn_432_0_0_ok 5 rfl), rfl⟩)))))
  (e_Tok2
  (e_Tok2
  (e_Lok (ld_aload_n_0 (x_dk dn_432_0_0_ok 6 rfl)))
  (e_Tok2
  (e_Lok (lk_12_8g ho_432 (x_dk dn_432_0_0_ok 7 rfl)))
  (e_Lok (ld_iload_n_1 (x_dk dn_432_0_0_ok 8 rfl)))))
  (e_Tok2
  (e_Lok (lk_12_294 ho_432 (x_dk dn_432_0_0_ok 9 rfl)))
  (e_Tok2
  (e_Lok (ps_iconst_2 (x_dk dn_432_0_0_ok 10 rfl)))
  (e_Lok (sm_iadd (x_dk dn_432_0_0_ok 11 rfl)))))))
  (e_Tok2
  (e_Tok2
  (e_Tok2
  (e_Lok (sm_iaload (x_dk dn_432_0_0_ok 12 rfl)))
  (e_Tok2
  (e_Lok (e_st (I := eI) (er_istore_n (i := 2) (x_dk dn_432_0_0_ok 13 rfl) (by decide +kernel)) nx_stor))
  (e_Lok (ld_aload_n_0 (x_dk dn_432_0_0_ok 14 rfl)))))
  (e_Tok2
  (e_Lok (lk_12_265g ho_432 (x_dk dn_432_0_0_ok 15 rfl)))
  (e_Tok2
  (e_Lok (e_st (I := eI) (er_ifeq (off := 7) (tg := 33) (x_dk dn_432_0_0_ok 16 rfl) (by decide)) nx_if1))
  (e_Lok (ld_iload_n_2 (x_dk dn_432_0_0_ok 17 rfl))))))
  (e_Tok2
  (e_Tok2
  (e_Lok (e_st (I := eI) (er_ifge (off := 6) (tg := 36) (x_dk dn_432_0_0_ok 18 rfl) (by decide)) nx_if1))
  (e_Tok2
  (e_Lok (ps_bipush_m2 (x_dk dn_432_0_0_ok 19 rfl)))
  (e_Lok (e_rt (I := eI) (k := 1) ⟨(x_dk dn_432_0_0_ok 20 rfl), rfl⟩))))
  (e_Tok2
  (e_Lok (ld_aload_n_0 (x_dk dn_432_0_0_ok 21 rfl)))
  (e_Tok2
  (e_Lok (lk_12_863 ho_432 (x_dk dn_432_0_0_ok 22 rfl)))
  (e_Lok (e_st (I := eI) (er_ifeq (off := 6) (tg := 46) (x_dk dn_432_0_0_ok 23 rfl) (by decide)) nx_if1)))))))
def te_432_24 : Nat → eE := (e_T 62 (e_T 51 (e_T 46 (e_T 43 (e_L 43 (0, ei_push (0, (-3)) 45, 0, 0)) (e_T 45 (e_L 45 (1, e_nof, 1, 0)) (e_L 46 (0, ei_load 0 2 47, 0, 0)))) (e_T 47 (e_L 47 (0, ei_getf eft elay 12 0 50, 0, 0)) (e_T 50 (e_L 50 (0, ei_load 2 0 51, 0, 0)) (e_L 51 (2, e_nof, 269, 1))))) (e_T 57 (e_T 54 (e_L 54 (0, ei_push (0, 6) 56, 0, 0)) (e_T 56 (e_L 56 (0, ei_ast elay false 57, 0, 0)) (e_L 57 (0, ei_load 0 2 58, 0, 0)))) (e_T 58 (e_L 58 (0, ei_getf eft elay 12 0 61, 0, 0)) (e_T 61 (e_L 61 (0, ei_load 1 0 62, 0, 0)) (e_L 62 (2, e_nof, 268, 1)))))) (e_T 70 (e_T 67 (e_T 65 (e_L 65 (0, ei_push (0, 2) 66, 0, 0)) (e_T 66 (e_L 66 (0, ei_bin eF_add 67, 0, 0)) (e_L 67 (0, ei_push (0, (-1)) 68, 0, 0)))) (e_T 68 (e_L 68 (0, ei_ast elay false 69, 0, 0)) (e_T 69 (e_L 69 (0, ei_load 0 2 70, 0, 0)) (e_L 70 (0, ei_push (0, 7) 72, 0, 0))))) (e_T 74 (e_T 72 (e_L 72 (0, ei_load 1 0 73, 0, 0)) (e_T 73 (e_L 73 (0, ei_push (0, 0) 74, 0, 0)) (e_L 74 (0, ei_push (0, 0) 75, 0, 0)))) (e_T 75 (e_L 75 (2, e_nof, 423, 5)) (e_T 78 (e_L 78 (0, ei_load 2 0 79, 0, 0)) (e_L 79 (1, e_nof, 1, 0)))))))
set_option maxRecDepth 20000 in
set_option maxHeartbeats 4000000 in
theorem te_432_24_ok : ∀ pc, e_EOq eft cls elay eI n_432 pc (te_432_24 pc) :=
  (e_Tok2
  (e_Tok2
  (e_Tok2
  (e_Tok2
  (e_Lok (ps_bipush_m3 (x_dk dn_432_0_0_ok 24 rfl)))
  (e_Tok2
  (e_Lok (e_rt (I := eI) (k := 1) ⟨(x_dk dn_432_0_1_ok 0 rfl), rfl⟩))
  (e_Lok (ld_aload_n_0 (x_dk dn_432_0_1_ok 1 rfl)))))
  (e_Tok2
  (e_Lok (lk_12_8g ho_432 (x_dk dn_432_0_1_ok 2 rfl)))
  (e_Tok2
  (e_Lok (ld_iload_n_2 (x_dk dn_432_0_1_ok 3 rfl)))
  (e_Lok (lk_12_298 ho_432 (x_dk dn_432_0_1_ok 4 rfl))))))
  (e_Tok2
  (e_Tok2
  (e_Lok (ps_bipush_6 (x_dk dn_432_0_1_ok 5 rfl)))
  (e_Tok2
  (e_Lok (sm_iastore (x_dk dn_432_0_1_ok 6 rfl)))
  (e_Lok (ld_aload_n_0 (x_dk dn_432_0_1_ok 7 rfl)))))
  (e_Tok2
  (e_Lok (lk_12_8g ho_432 (x_dk dn_432_0_1_ok 8 rfl)))
  (e_Tok2
  (e_Lok (ld_iload_n_1 (x_dk dn_432_0_1_ok 9 rfl)))
  (e_Lok (lk_12_294 ho_432 (x_dk dn_432_0_1_ok 10 rfl)))))))
  (e_Tok2
  (e_Tok2
  (e_Tok2
  (e_Lok (ps_iconst_2 (x_dk dn_432_0_1_ok 11 rfl)))
  (e_Tok2
  (e_Lok (sm_iadd (x_dk dn_432_0_1_ok 12 rfl)))
  (e_Lok (ps_iconst_m1 (x_dk dn_432_0_1_ok 13 rfl)))))
  (e_Tok2
  (e_Lok (sm_iastore (x_dk dn_432_0_1_ok 14 rfl)))
  (e_Tok2
  (e_Lok (ld_aload_n_0 (x_dk dn_432_0_1_ok 15 rfl)))
  (e_Lok (ps_bipush_7 (x_dk dn_432_0_1_ok 16 rfl))))))
  (e_Tok2
  (e_Tok2
  (e_Lok (ld_iload_n_1 (x_dk dn_432_0_1_ok 17 rfl)))
  (e_Tok2
  (e_Lok (ps_iconst_0 (x_dk dn_432_0_1_ok 18 rfl)))
  (e_Lok (ps_iconst_0 (x_dk dn_432_0_1_ok 19 rfl)))))
  (e_Tok2
  (e_Lok (lk_12_866 ho_432 (x_dk dn_432_0_1_ok 20 rfl)))
  (e_Tok2
  (e_Lok (ld_iload_n_2 (x_dk dn_432_0_1_ok 21 rfl)))
  (e_Lok (e_rt (I := eI) (k := 1) ⟨(x_dk dn_432_0_1_ok 22 rfl), rfl⟩)))))))
def te_432 : Nat → eE := (e_T 40 te_432_0 te_432_24)
theorem te_432_ok : ∀ pc, e_EOq eft cls elay eI n_432 pc (te_432 pc) := (e_Tok2 (te_432_0_ok) (te_432_24_ok))
theorem ho_433 : (xm_y n_433).cls = "RobotCellHouseModel" := rfl
def dn_433_0_0 : List (Nat × Instr × Nat) := [(0, .aload_n 0, 1), (1, .iload_n 1, 1), (2, .iload_n 2, 1), (3, .invokevirtual 333, 3), (6, .ifCond .eq 35, 3), (9, .iload_n 3, 1), (10, .i2l, 1), (11, .aload_n 0, 1), (12, .getfield 49, 3), (15, .bipush 6, 2), (17, .iload_n 1, 1), (18, .imul, 1), (19, .iload_n 2, 1), (20, .iadd, 1), (21, .iaload, 1), (22, .i2l, 1), (23, .aload_n 0, 1), (24, .getfield 52, 3), (27, .bipush 6, 2), (29, .iload_n 1, 1), (30, .imul, 1), (31, .iload_n 2, 1), (32, .iadd, 1), (33, .iaload, 1), (34, .i2l, 1)]
set_option maxRecDepth 20000 in
theorem dn_433_0_0_ok : dn_433_0_0.all (fun q => decide (decode (xm_b n_433) q.1 = .ok (q.2.1, q.2.2))) = true := xa_g_ok (by decide +kernel)
def dn_433_0_1 : List (Nat × Instr × Nat) := [(35, .invokestatic 301, 3), (38, .ifCond .ne 5, 3), (41, .iconst (-1), 1), (42, .ireturn, 1), (43, .aload_n 0, 1), (44, .getfield 265, 3), (47, .ifCond .eq 13, 3), (50, .aload_n 0, 1), (51, .getfield 8, 3), (54, .iconst 1, 1), (55, .iaload, 1), (56, .iconst 1, 1), (57, .if_icmp .ne 6, 3), (60, .bipush (-2), 2), (62, .ireturn, 1), (63, .aload_n 0, 1), (64, .invokevirtual 863, 3), (67, .ifCond .eq 6, 3), (70, .bipush (-3), 2), (72, .ireturn, 1), (73, .aload_n 0, 1), (74, .getfield 8, 3), (77, .iload_n 1, 1), (78, .invokestatic 294, 3), (81, .bipush 16, 2)]
set_option maxRecDepth 20000 in
theorem dn_433_0_1_ok : dn_433_0_1.all (fun q => decide (decode (xm_b n_433) q.1 = .ok (q.2.1, q.2.2))) = true := xa_g_ok (by decide +kernel)
def dn_433_0_2 : List (Nat × Instr × Nat) := [(83, .iadd, 1), (84, .iload_n 2, 1), (85, .iadd, 1), (86, .iaload, 1), (87, .istore 4, 2), (89, .aload_n 0, 1), (90, .getfield 8, 3), (93, .iload_n 1, 1), (94, .invokestatic 294, 3), (97, .bipush 16, 2), (99, .iadd, 1), (100, .iload_n 2, 1), (101, .iadd, 1), (102, .iload_n 3, 1), (103, .iastore, 1), (104, .iload 4, 2), (106, .iload_n 3, 1), (107, .if_icmp .eq 8, 3), (110, .aload_n 0, 1), (111, .iload_n 1, 1), (112, .invokevirtual 762, 3), (115, .aload_n 0, 1), (116, .bipush 8, 2), (118, .iload_n 1, 1), (119, .iload_n 2, 1)]
set_option maxRecDepth 20000 in
theorem dn_433_0_2_ok : dn_433_0_2.all (fun q => decide (decode (xm_b n_433) q.1 = .ok (q.2.1, q.2.2))) = true := xa_g_ok (by decide +kernel)
def dn_433_0_3 : List (Nat × Instr × Nat) := [(120, .iload_n 3, 1), (121, .invokevirtual 866, 3), (124, .iload 4, 2), (126, .ireturn, 1)]
set_option maxRecDepth 20000 in
theorem dn_433_0_3_ok : dn_433_0_3.all (fun q => decide (decode (xm_b n_433) q.1 = .ok (q.2.1, q.2.2))) = true := xa_g_ok (by decide +kernel)
def te_433_0 : Nat → eE := (e_T 27 (e_T 12 (e_T 3 (e_T 1 (e_T 0 (e_L 0 (0, ei_load 0 2 1, 0, 0)) (e_L 1 (0, ei_load 1 0 2, 0, 0))) (e_T 2 (e_L 2 (0, ei_load 2 0 3, 0, 0)) (e_L 3 (2, e_nof, 271, 3)))) (e_T 9 (e_T 6 (e_L 6 (0, ei_if1 0 41 9, 0, 0)) (e_L 9 (0, ei_load 3 0 10, 0, 0))) (e_T 10 (e_L 10 (0, ei_un (fun x => (4, x)) 11, 0, 0)) (e_T 11 (e_L 11 (0, ei_load 0 2 12, 0, 0)) (e_L 12 (0, ei_getf eft elay 12 17 15, 0, 0)))))) (e_T 20 (e_T 17 (e_T 15 (e_L 15 (0, ei_push (0, 6) 17, 0, 0)) (e_L 17 (0, ei_load 1 0 18, 0, 0))) (e_T 18 (e_L 18 (0, ei_bin eF_mul 19, 0, 0)) (e_T 19 (e_L 19 (0, ei_load 2 0 20, 0, 0)) (e_L 20 (0, ei_bin eF_add 21, 0, 0))))) (e_T 22 (e_T 21 (e_L 21 (0, ei_ald elay false 22, 0, 0)) (e_L 22 (0, ei_un (fun x => (4, x)) 23, 0, 0))) (e_T 23 (e_L 23 (0, ei_load 0 2 24, 0, 0)) (e_T 24 (e_L 24 (0, ei_getf eft elay 12 18 27, 0, 0)) (e_L 27 (0, ei_push (0, 6) 29, 0, 0))))))) (e_T 42 (e_T 33 (e_T 30 (e_T 29 (e_L 29 (0, ei_load 1 0 30, 0, 0)) (e_L 30 (0, ei_bin eF_mul 31, 0, 0))) (e_T 31 (e_L 31 (0, ei_load 2 0 32, 0, 0)) (e_T 32 (e_L 32 (0, ei_bin eF_add 33, 0, 0)) (e_L 33 (0, ei_ald elay false 34, 0, 0))))) (e_T 35 (e_T 34 (e_L 34 (0, ei_un (fun x => (4, x)) 35, 0, 0)) (e_L 35 (2, e_nof, 266, 3))) (e_T 38 (e_L 38 (0, ei_if1 1 43 41, 0, 0)) (e_T 41 (e_L 41 (0, ei_push (0, (-1)) 42, 0, 0)) (e_L 42 (1, e_nof, 1, 0)))))) (e_T 51 (e_T 44 (e_T 43 (e_L 43 (0, ei_load 0 2 44, 0, 0)) (e_L 44 (0, ei_getf eft elay 12 3 47, 0, 0))) (e_T 47 (e_L 47 (0, ei_if1 0 60 50, 0, 0)) (e_T 50 (e_L 50 (0, ei_load 0 2 51, 0, 0)) (e_L 51 (0, ei_getf eft elay 12 0 54, 0, 0))))) (e_T 55 (e_T 54 (e_L 54 (0, ei_push (0, 1) 55, 0, 0)) (e_L 55 (0, ei_ald elay false 56, 0, 0))) (e_T 56 (e_L 56 (0, ei_push (0, 1) 57, 0, 0)) (e_T 57 (e_L 57 (0, ei_if2 1 63 60, 0, 0)) (e_L 60 (0, ei_push (0, (-2)) 62, 0, 0))))))))
set_option maxRecDepth 20000 in
set_option maxHeartbeats 4000000 in
theorem te_433_0_ok : ∀ pc, e_EOq eft cls elay eI n_433 pc (te_433_0 pc) :=
  (e_Tok2
  (e_Tok2
  (e_Tok2
  (e_Tok2
  (e_Tok2
  (e_Lok (ld_aload_n_0 (x_dk dn_433_0_0_ok 0 rfl)))
  (e_Lok (ld_iload_n_1 (x_dk dn_433_0_0_ok 1 rfl))))
  (e_Tok2
  (e_Lok (ld_iload_n_2 (x_dk dn_433_0_0_ok 2 rfl)))
  (e_Lok (lk_12_333 ho_433 (x_dk dn_433_0_0_ok 3 rfl)))))
  (e_Tok2
  (e_Tok2
  (e_Lok (e_st (I := eI) (er_ifeq (off := 35) (tg := 41) (x_dk dn_433_0_0_ok 4 rfl) (by decide)) nx_if1))
  (e_Lok (ld_iload_n_3 (x_dk dn_433_0_0_ok 5 rfl))))
  (e_Tok2
  (e_Lok (e_st (I := eI) (er_i2l (x_dk dn_433_0_0_ok 6 rfl)) (nx_un (fun _ => rfl))))
  (e_Tok2
  (e_Lok (ld_aload_n_0 (x_dk dn_433_0_0_ok 7 rfl)))
  (e_Lok (lk_12_49g ho_433 (x_dk dn_433_0_0_ok 8 rfl)))))))
  (e_Tok2
  (e_Tok2
  (e_Tok2
  (e_Lok (ps_bipush_6 (x_dk dn_433_0_0_ok 9 rfl)))
  (e_Lok (ld_iload_n_1 (x_dk dn_433_0_0_ok 10 rfl))))
  (e_Tok2
  (e_Lok (sm_imul (x_dk dn_433_0_0_ok 11 rfl)))
  (e_Tok2
  (e_Lok (ld_iload_n_2 (x_dk dn_433_0_0_ok 12 rfl)))
  (e_Lok (sm_iadd (x_dk dn_433_0_0_ok 13 rfl))))))
  (e_Tok2
  (e_Tok2
  (e_Lok (sm_iaload (x_dk dn_433_0_0_ok 14 rfl)))
  (e_Lok (e_st (I := eI) (er_i2l (x_dk dn_433_0_0_ok 15 rfl)) (nx_un (fun _ => rfl)))))
  (e_Tok2
  (e_Lok (ld_aload_n_0 (x_dk dn_433_0_0_ok 16 rfl)))
  (e_Tok2
  (e_Lok (lk_12_52g ho_433 (x_dk dn_433_0_0_ok 17 rfl)))
  (e_Lok (ps_bipush_6 (x_dk dn_433_0_0_ok 18 rfl))))))))
  (e_Tok2
  (e_Tok2
  (e_Tok2
  (e_Tok2
  (e_Lok (ld_iload_n_1 (x_dk dn_433_0_0_ok 19 rfl)))
  (e_Lok (sm_imul (x_dk dn_433_0_0_ok 20 rfl))))
  (e_Tok2
  (e_Lok (ld_iload_n_2 (x_dk dn_433_0_0_ok 21 rfl)))
  (e_Tok2
  (e_Lok (sm_iadd (x_dk dn_433_0_0_ok 22 rfl)))
  (e_Lok (sm_iaload (x_dk dn_433_0_0_ok 23 rfl))))))
  (e_Tok2
  (e_Tok2
  (e_Lok (e_st (I := eI) (er_i2l (x_dk dn_433_0_0_ok 24 rfl)) (nx_un (fun _ => rfl))))
  (e_Lok (lk_12_301 ho_433 (x_dk dn_433_0_1_ok 0 rfl))))
  (e_Tok2
  (e_Lok (e_st (I := eI) (er_ifne (off := 5) (tg := 43) (x_dk dn_433_0_1_ok 1 rfl) (by decide)) nx_if1))
  (e_Tok2
  (e_Lok (ps_iconst_m1 (x_dk dn_433_0_1_ok 2 rfl)))
  (e_Lok (e_rt (I := eI) (k := 1) ⟨(x_dk dn_433_0_1_ok 3 rfl), rfl⟩))))))
  (e_Tok2
  (e_Tok2
  (e_Tok2
  (e_Lok (ld_aload_n_0 (x_dk dn_433_0_1_ok 4 rfl)))
  (e_Lok (lk_12_265g ho_433 (x_dk dn_433_0_1_ok 5 rfl))))
  (e_Tok2
  (e_Lok (e_st (I := eI) (er_ifeq (off := 13) (tg := 60) (x_dk dn_433_0_1_ok 6 rfl) (by decide)) nx_if1))
  (e_Tok2
  (e_Lok (ld_aload_n_0 (x_dk dn_433_0_1_ok 7 rfl)))
  (e_Lok (lk_12_8g ho_433 (x_dk dn_433_0_1_ok 8 rfl))))))
  (e_Tok2
  (e_Tok2
  (e_Lok (ps_iconst_1 (x_dk dn_433_0_1_ok 9 rfl)))
  (e_Lok (sm_iaload (x_dk dn_433_0_1_ok 10 rfl))))
  (e_Tok2
  (e_Lok (ps_iconst_1 (x_dk dn_433_0_1_ok 11 rfl)))
  (e_Tok2
  (e_Lok (e_st (I := eI) (er_icmpne (off := 6) (tg := 63) (x_dk dn_433_0_1_ok 12 rfl) (by decide)) nx_if2))
  (e_Lok (ps_bipush_m2 (x_dk dn_433_0_1_ok 13 rfl)))))))))
def te_433_39 : Nat → eE := (e_T 94 (e_T 78 (e_T 70 (e_T 63 (e_T 62 (e_L 62 (1, e_nof, 1, 0)) (e_L 63 (0, ei_load 0 2 64, 0, 0))) (e_T 64 (e_L 64 (2, e_nof, 422, 1)) (e_T 67 (e_L 67 (0, ei_if1 0 73 70, 0, 0)) (e_L 70 (0, ei_push (0, (-3)) 72, 0, 0))))) (e_T 73 (e_T 72 (e_L 72 (1, e_nof, 1, 0)) (e_L 73 (0, ei_load 0 2 74, 0, 0))) (e_T 74 (e_L 74 (0, ei_getf eft elay 12 0 77, 0, 0)) (e_T 77 (e_L 77 (0, ei_load 1 0 78, 0, 0)) (e_L 78 (2, e_nof, 268, 1)))))) (e_T 86 (e_T 83 (e_T 81 (e_L 81 (0, ei_push (0, 16) 83, 0, 0)) (e_L 83 (0, ei_bin eF_add 84, 0, 0))) (e_T 84 (e_L 84 (0, ei_load 2 0 85, 0, 0)) (e_T 85 (e_L 85 (0, ei_bin eF_add 86, 0, 0)) (e_L 86 (0, ei_ald elay false 87, 0, 0))))) (e_T 89 (e_T 87 (e_L 87 (0, ei_stor 4 0 89, 0, 0)) (e_L 89 (0, ei_load 0 2 90, 0, 0))) (e_T 90 (e_L 90 (0, ei_getf eft elay 12 0 93, 0, 0)) (e_T 93 (e_L 93 (0, ei_load 1 0 94, 0, 0)) (e_L 94 (2, e_nof, 268, 1))))))) (e_T 110 (e_T 102 (e_T 99 (e_T 97 (e_L 97 (0, ei_push (0, 16) 99, 0, 0)) (e_L 99 (0, ei_bin eF_add 100, 0, 0))) (e_T 100 (e_L 100 (0, ei_load 2 0 101, 0, 0)) (e_T 101 (e_L 101 (0, ei_bin eF_add 102, 0, 0)) (e_L 102 (0, ei_load 3 0 103, 0, 0))))) (e_T 104 (e_T 103 (e_L 103 (0, ei_ast elay false 104, 0, 0)) (e_L 104 (0, ei_load 4 0 106, 0, 0))) (e_T 106 (e_L 106 (0, ei_load 3 0 107, 0, 0)) (e_T 107 (e_L 107 (0, ei_if2 0 115 110, 0, 0)) (e_L 110 (0, ei_load 0 2 111, 0, 0)))))) (e_T 118 (e_T 112 (e_T 111 (e_L 111 (0, ei_load 1 0 112, 0, 0)) (e_L 112 (2, e_nof, 390, 2))) (e_T 115 (e_L 115 (0, ei_load 0 2 116, 0, 0)) (e_T 116 (e_L 116 (0, ei_push (0, 8) 118, 0, 0)) (e_L 118 (0, ei_load 1 0 119, 0, 0))))) (e_T 120 (e_T 119 (e_L 119 (0, ei_load 2 0 120, 0, 0)) (e_L 120 (0, ei_load 3 0 121, 0, 0))) (e_T 121 (e_L 121 (2, e_nof, 423, 5)) (e_T 124 (e_L 124 (0, ei_load 4 0 126, 0, 0)) (e_L 126 (1, e_nof, 1, 0))))))))
set_option maxRecDepth 20000 in
set_option maxHeartbeats 4000000 in
theorem te_433_39_ok : ∀ pc, e_EOq eft cls elay eI n_433 pc (te_433_39 pc) :=
  (e_Tok2
  (e_Tok2
  (e_Tok2
  (e_Tok2
  (e_Tok2
  (e_Lok (e_rt (I := eI) (k := 1) ⟨(x_dk dn_433_0_1_ok 14 rfl), rfl⟩))
  (e_Lok (ld_aload_n_0 (x_dk dn_433_0_1_ok 15 rfl))))
  (e_Tok2
  (e_Lok (lk_12_863 ho_433 (x_dk dn_433_0_1_ok 16 rfl)))
  (e_Tok2
  (e_Lok (e_st (I := eI) (er_ifeq (off := 6) (tg := 73) (x_dk dn_433_0_1_ok 17 rfl) (by decide)) nx_if1))
  (e_Lok (ps_bipush_m3 (x_dk dn_433_0_1_ok 18 rfl))))))
  (e_Tok2
  (e_Tok2
  (e_Lok (e_rt (I := eI) (k := 1) ⟨(x_dk dn_433_0_1_ok 19 rfl), rfl⟩))
  (e_Lok (ld_aload_n_0 (x_dk dn_433_0_1_ok 20 rfl))))
  (e_Tok2
  (e_Lok (lk_12_8g ho_433 (x_dk dn_433_0_1_ok 21 rfl)))
  (e_Tok2
  (e_Lok (ld_iload_n_1 (x_dk dn_433_0_1_ok 22 rfl)))
  (e_Lok (lk_12_294 ho_433 (x_dk dn_433_0_1_ok 23 rfl)))))))
  (e_Tok2
  (e_Tok2
  (e_Tok2
  (e_Lok (ps_bipush_16 (x_dk dn_433_0_1_ok 24 rfl)))
  (e_Lok (sm_iadd (x_dk dn_433_0_2_ok 0 rfl))))
  (e_Tok2
  (e_Lok (ld_iload_n_2 (x_dk dn_433_0_2_ok 1 rfl)))
  (e_Tok2
  (e_Lok (sm_iadd (x_dk dn_433_0_2_ok 2 rfl)))
  (e_Lok (sm_iaload (x_dk dn_433_0_2_ok 3 rfl))))))
  (e_Tok2
  (e_Tok2
  (e_Lok (e_st (I := eI) (er_istore (i := 4) (x_dk dn_433_0_2_ok 4 rfl) (by decide +kernel)) nx_stor))
  (e_Lok (ld_aload_n_0 (x_dk dn_433_0_2_ok 5 rfl))))
  (e_Tok2
  (e_Lok (lk_12_8g ho_433 (x_dk dn_433_0_2_ok 6 rfl)))
  (e_Tok2
  (e_Lok (ld_iload_n_1 (x_dk dn_433_0_2_ok 7 rfl)))
  (e_Lok (lk_12_294 ho_433 (x_dk dn_433_0_2_ok 8 rfl))))))))
  (e_Tok2
  (e_Tok2
  (e_Tok2
  (e_Tok2
  (e_Lok (ps_bipush_16 (x_dk dn_433_0_2_ok 9 rfl)))
  (e_Lok (sm_iadd (x_dk dn_433_0_2_ok 10 rfl))))
  (e_Tok2
  (e_Lok (ld_iload_n_2 (x_dk dn_433_0_2_ok 11 rfl)))
  (e_Tok2
  (e_Lok (sm_iadd (x_dk dn_433_0_2_ok 12 rfl)))
  (e_Lok (ld_iload_n_3 (x_dk dn_433_0_2_ok 13 rfl))))))
  (e_Tok2
  (e_Tok2
  (e_Lok (sm_iastore (x_dk dn_433_0_2_ok 14 rfl)))
  (e_Lok (ld_iload_4 (x_dk dn_433_0_2_ok 15 rfl))))
  (e_Tok2
  (e_Lok (ld_iload_n_3 (x_dk dn_433_0_2_ok 16 rfl)))
  (e_Tok2
  (e_Lok (e_st (I := eI) (er_icmpeq (off := 8) (tg := 115) (x_dk dn_433_0_2_ok 17 rfl) (by decide)) nx_if2))
  (e_Lok (ld_aload_n_0 (x_dk dn_433_0_2_ok 18 rfl)))))))
  (e_Tok2
  (e_Tok2
  (e_Tok2
  (e_Lok (ld_iload_n_1 (x_dk dn_433_0_2_ok 19 rfl)))
  (e_Lok (lk_12_762 ho_433 (x_dk dn_433_0_2_ok 20 rfl))))
  (e_Tok2
  (e_Lok (ld_aload_n_0 (x_dk dn_433_0_2_ok 21 rfl)))
  (e_Tok2
  (e_Lok (ps_bipush_8 (x_dk dn_433_0_2_ok 22 rfl)))
  (e_Lok (ld_iload_n_1 (x_dk dn_433_0_2_ok 23 rfl))))))
  (e_Tok2
  (e_Tok2
  (e_Lok (ld_iload_n_2 (x_dk dn_433_0_2_ok 24 rfl)))
  (e_Lok (ld_iload_n_3 (x_dk dn_433_0_3_ok 0 rfl))))
  (e_Tok2
  (e_Lok (lk_12_866 ho_433 (x_dk dn_433_0_3_ok 1 rfl)))
  (e_Tok2
  (e_Lok (ld_iload_4 (x_dk dn_433_0_3_ok 2 rfl)))
  (e_Lok (e_rt (I := eI) (k := 1) ⟨(x_dk dn_433_0_3_ok 3 rfl), rfl⟩))))))))
def te_433 : Nat → eE := (e_T 60 te_433_0 te_433_39)
theorem te_433_ok : ∀ pc, e_EOq eft cls elay eI n_433 pc (te_433 pc) := (e_Tok2 (te_433_0_ok) (te_433_39_ok))
theorem ho_434 : (xm_y n_434).cls = "RobotCellHouseModel" := rfl
def dn_434_0_0 : List (Nat × Instr × Nat) := [(0, .iload_n 1, 1), (1, .i2l, 1), (2, .lconst 0, 1), (3, .ldc2_w 879, 3), (6, .invokestatic 301, 3), (9, .ifCond .ne 5, 3), (12, .iconst (-1), 1), (13, .ireturn, 1), (14, .aload_n 0, 1), (15, .getfield 265, 3), (18, .ifCond .ne 6, 3), (21, .bipush (-2), 2), (23, .ireturn, 1), (24, .aload_n 0, 1), (25, .invokevirtual 863, 3), (28, .ifCond .eq 6, 3), (31, .bipush (-3), 2), (33, .ireturn, 1), (34, .aload_n 0, 1), (35, .getfield 8, 3), (38, .bipush 8, 2), (40, .iload_n 1, 1), (41, .iadd, 1), (42, .iload_n 2, 1), (43, .iastore, 1)]
set_option maxRecDepth 20000 in
theorem dn_434_0_0_ok : dn_434_0_0.all (fun q => decide (decode (xm_b n_434) q.1 = .ok (q.2.1, q.2.2))) = true := xa_g_ok (by decide +kernel)
def dn_434_0_1 : List (Nat × Instr × Nat) := [(44, .aload_n 0, 1), (45, .bipush 9, 2), (47, .iload_n 1, 1), (48, .iload_n 2, 1), (49, .iconst 0, 1), (50, .invokevirtual 866, 3), (53, .iconst 0, 1), (54, .ireturn, 1)]
set_option maxRecDepth 20000 in
theorem dn_434_0_1_ok : dn_434_0_1.all (fun q => decide (decode (xm_b n_434) q.1 = .ok (q.2.1, q.2.2))) = true := xa_g_ok (by decide +kernel)
def te_434_0 : Nat → eE := (e_T 28 (e_T 13 (e_T 3 (e_T 1 (e_T 0 (e_L 0 (0, ei_load 1 0 1, 0, 0)) (e_L 1 (0, ei_un (fun x => (4, x)) 2, 0, 0))) (e_T 2 (e_L 2 (0, ei_push (4, 0) 3, 0, 0)) (e_L 3 (0, ei_push (4, 5) 6, 0, 0)))) (e_T 9 (e_T 6 (e_L 6 (2, e_nof, 266, 3)) (e_L 9 (0, ei_if1 1 14 12, 0, 0))) (e_T 12 (e_L 12 (0, ei_push (0, (-1)) 13, 0, 0)) (e_L 13 (1, e_nof, 1, 0))))) (e_T 21 (e_T 15 (e_T 14 (e_L 14 (0, ei_load 0 2 15, 0, 0)) (e_L 15 (0, ei_getf eft elay 12 3 18, 0, 0))) (e_T 18 (e_L 18 (0, ei_if1 1 24 21, 0, 0)) (e_L 21 (0, ei_push (0, (-2)) 23, 0, 0)))) (e_T 24 (e_T 23 (e_L 23 (1, e_nof, 1, 0)) (e_L 24 (0, ei_load 0 2 25, 0, 0))) (e_T 25 (e_L 25 (2, e_nof, 422, 1)) (e_L 28 (0, ei_if1 0 34 31, 0, 0)))))) (e_T 42 (e_T 35 (e_T 33 (e_T 31 (e_L 31 (0, ei_push (0, (-3)) 33, 0, 0)) (e_L 33 (1, e_nof, 1, 0))) (e_T 34 (e_L 34 (0, ei_load 0 2 35, 0, 0)) (e_L 35 (0, ei_getf eft elay 12 0 38, 0, 0)))) (e_T 40 (e_T 38 (e_L 38 (0, ei_push (0, 8) 40, 0, 0)) (e_L 40 (0, ei_load 1 0 41, 0, 0))) (e_T 41 (e_L 41 (0, ei_bin eF_add 42, 0, 0)) (e_L 42 (0, ei_load 2 0 43, 0, 0))))) (e_T 47 (e_T 44 (e_T 43 (e_L 43 (0, ei_ast elay false 44, 0, 0)) (e_L 44 (0, ei_load 0 2 45, 0, 0))) (e_T 45 (e_L 45 (0, ei_push (0, 9) 47, 0, 0)) (e_L 47 (0, ei_load 1 0 48, 0, 0)))) (e_T 49 (e_T 48 (e_L 48 (0, ei_load 2 0 49, 0, 0)) (e_L 49 (0, ei_push (0, 0) 50, 0, 0))) (e_T 50 (e_L 50 (2, e_nof, 423, 5)) (e_T 53 (e_L 53 (0, ei_push (0, 0) 54, 0, 0)) (e_L 54 (1, e_nof, 1, 0))))))))
set_option maxRecDepth 20000 in
set_option maxHeartbeats 4000000 in
theorem te_434_0_ok : ∀ pc, e_EOq eft cls elay eI n_434 pc (te_434_0 pc) :=
  (e_Tok2
  (e_Tok2
  (e_Tok2
  (e_Tok2
  (e_Tok2
  (e_Lok (ld_iload_n_1 (x_dk dn_434_0_0_ok 0 rfl)))
  (e_Lok (e_st (I := eI) (er_i2l (x_dk dn_434_0_0_ok 1 rfl)) (nx_un (fun _ => rfl)))))
  (e_Tok2
  (e_Lok (ps_lconst_0 (x_dk dn_434_0_0_ok 2 rfl)))
  (e_Lok (e_st (I := eI) (er_ldc2 (ix := 879) (z := 5) (v := 5) (x_dk dn_434_0_0_ok 3 rfl) (in_t13 (List.mem_of_getElem? (i := 183) rfl) rfl) (by decide)) (nx_push (Or.inl rfl))))))
  (e_Tok2
  (e_Tok2
  (e_Lok (lk_12_301 ho_434 (x_dk dn_434_0_0_ok 4 rfl)))
  (e_Lok (e_st (I := eI) (er_ifne (off := 5) (tg := 14) (x_dk dn_434_0_0_ok 5 rfl) (by decide)) nx_if1)))
  (e_Tok2
  (e_Lok (ps_iconst_m1 (x_dk dn_434_0_0_ok 6 rfl)))
  (e_Lok (e_rt (I := eI) (k := 1) ⟨(x_dk dn_434_0_0_ok 7 rfl), rfl⟩)))))
  (e_Tok2
  (e_Tok2
  (e_Tok2
  (e_Lok (ld_aload_n_0 (x_dk dn_434_0_0_ok 8 rfl)))
  (e_Lok (lk_12_265g ho_434 (x_dk dn_434_0_0_ok 9 rfl))))
  (e_Tok2
  (e_Lok (e_st (I := eI) (er_ifne (off := 6) (tg := 24) (x_dk dn_434_0_0_ok 10 rfl) (by decide)) nx_if1))
  (e_Lok (ps_bipush_m2 (x_dk dn_434_0_0_ok 11 rfl)))))
  (e_Tok2
  (e_Tok2
  (e_Lok (e_rt (I := eI) (k := 1) ⟨(x_dk dn_434_0_0_ok 12 rfl), rfl⟩))
  (e_Lok (ld_aload_n_0 (x_dk dn_434_0_0_ok 13 rfl))))
  (e_Tok2
  (e_Lok (lk_12_863 ho_434 (x_dk dn_434_0_0_ok 14 rfl)))
  (e_Lok (e_st (I := eI) (er_ifeq (off := 6) (tg := 34) (x_dk dn_434_0_0_ok 15 rfl) (by decide)) nx_if1))))))
  (e_Tok2
  (e_Tok2
  (e_Tok2
  (e_Tok2
  (e_Lok (ps_bipush_m3 (x_dk dn_434_0_0_ok 16 rfl)))
  (e_Lok (e_rt (I := eI) (k := 1) ⟨(x_dk dn_434_0_0_ok 17 rfl), rfl⟩)))
  (e_Tok2
  (e_Lok (ld_aload_n_0 (x_dk dn_434_0_0_ok 18 rfl)))
  (e_Lok (lk_12_8g ho_434 (x_dk dn_434_0_0_ok 19 rfl)))))
  (e_Tok2
  (e_Tok2
  (e_Lok (ps_bipush_8 (x_dk dn_434_0_0_ok 20 rfl)))
  (e_Lok (ld_iload_n_1 (x_dk dn_434_0_0_ok 21 rfl))))
  (e_Tok2
  (e_Lok (sm_iadd (x_dk dn_434_0_0_ok 22 rfl)))
  (e_Lok (ld_iload_n_2 (x_dk dn_434_0_0_ok 23 rfl))))))
  (e_Tok2
  (e_Tok2
  (e_Tok2
  (e_Lok (sm_iastore (x_dk dn_434_0_0_ok 24 rfl)))
  (e_Lok (ld_aload_n_0 (x_dk dn_434_0_1_ok 0 rfl))))
  (e_Tok2
  (e_Lok (ps_bipush_9 (x_dk dn_434_0_1_ok 1 rfl)))
  (e_Lok (ld_iload_n_1 (x_dk dn_434_0_1_ok 2 rfl)))))
  (e_Tok2
  (e_Tok2
  (e_Lok (ld_iload_n_2 (x_dk dn_434_0_1_ok 3 rfl)))
  (e_Lok (ps_iconst_0 (x_dk dn_434_0_1_ok 4 rfl))))
  (e_Tok2
  (e_Lok (lk_12_866 ho_434 (x_dk dn_434_0_1_ok 5 rfl)))
  (e_Tok2
  (e_Lok (ps_iconst_0 (x_dk dn_434_0_1_ok 6 rfl)))
  (e_Lok (e_rt (I := eI) (k := 1) ⟨(x_dk dn_434_0_1_ok 7 rfl), rfl⟩))))))))
def te_434 : Nat → eE := te_434_0
theorem te_434_ok : ∀ pc, e_EOq eft cls elay eI n_434 pc (te_434 pc) := te_434_0_ok
theorem ho_435 : (xm_y n_435).cls = "RobotCellHouseModel" := rfl
def dn_435_0_0 : List (Nat × Instr × Nat) := [(0, .iload_n 1, 1), (1, .tableswitch 167 0 10 #[59, 66, 72, 79, 97, 124, 130, 136, 142, 151, 158], 59), (60, .aload_n 0, 1), (61, .iload_n 2, 1), (62, .iload_n 3, 1), (63, .invokevirtual 881, 3), (66, .ireturn, 1), (67, .aload_n 0, 1), (68, .iload_n 2, 1), (69, .invokevirtual 884, 3), (72, .ireturn, 1), (73, .aload_n 0, 1), (74, .iload_n 2, 1), (75, .iload_n 3, 1), (76, .invokevirtual 887, 3), (79, .ireturn, 1), (80, .aload_n 0, 1), (81, .iload_n 2, 1), (82, .iload_n 3, 1), (83, .iload 4, 2), (85, .iconst 1, 1), (86, .if_icmp .ne 7, 3), (89, .iconst 1, 1), (90, .goto 4, 3), (93, .iconst 0, 1)]
set_option maxRecDepth 20000 in
theorem dn_435_0_0_ok : dn_435_0_0.all (fun q => decide (decode (xm_b n_435) q.1 = .ok (q.2.1, q.2.2))) = true := xa_g_ok (by decide +kernel)
def dn_435_0_1 : List (Nat × Instr × Nat) := [(94, .invokevirtual 890, 3), (97, .ireturn, 1), (98, .aload_n 0, 1), (99, .iload_n 2, 1), (100, .iload_n 3, 1), (101, .iconst 1, 1), (102, .if_icmp .ne 7, 3), (105, .iconst 1, 1), (106, .goto 4, 3), (109, .iconst 0, 1), (110, .iload 4, 2), (112, .iconst 1, 1), (113, .if_icmp .ne 7, 3), (116, .iconst 1, 1), (117, .goto 4, 3), (120, .iconst 0, 1), (121, .invokevirtual 894, 3), (124, .ireturn, 1), (125, .aload_n 0, 1), (126, .iload_n 2, 1), (127, .invokevirtual 898, 3), (130, .ireturn, 1), (131, .aload_n 0, 1), (132, .iload_n 2, 1), (133, .invokevirtual 901, 3)]
set_option maxRecDepth 20000 in
theorem dn_435_0_1_ok : dn_435_0_1.all (fun q => decide (decode (xm_b n_435) q.1 = .ok (q.2.1, q.2.2))) = true := xa_g_ok (by decide +kernel)
def dn_435_0_2 : List (Nat × Instr × Nat) := [(136, .ireturn, 1), (137, .aload_n 0, 1), (138, .iload_n 2, 1), (139, .invokevirtual 904, 3), (142, .ireturn, 1), (143, .aload_n 0, 1), (144, .iload_n 2, 1), (145, .iload_n 3, 1), (146, .iload 4, 2), (148, .invokevirtual 907, 3), (151, .ireturn, 1), (152, .aload_n 0, 1), (153, .iload_n 2, 1), (154, .iload_n 3, 1), (155, .invokevirtual 910, 3), (158, .ireturn, 1), (159, .aload_n 0, 1), (160, .iload_n 2, 1), (161, .iload_n 3, 1), (162, .iload 4, 2), (164, .invokevirtual 913, 3), (167, .ireturn, 1), (168, .aload_n 0, 1), (169, .iload_n 2, 1), (170, .invokevirtual 916, 3)]
set_option maxRecDepth 20000 in
theorem dn_435_0_2_ok : dn_435_0_2.all (fun q => decide (decode (xm_b n_435) q.1 = .ok (q.2.1, q.2.2))) = true := xa_g_ok (by decide +kernel)
def dn_435_0_3 : List (Nat × Instr × Nat) := [(173, .ireturn, 1)]
set_option maxRecDepth 20000 in
theorem dn_435_0_3_ok : dn_435_0_3.all (fun q => decide (decode (xm_b n_435) q.1 = .ok (q.2.1, q.2.2))) = true := xa_g_ok (by decide +kernel)
def te_435_0 : Nat → eE := (e_T 82 (e_T 68 (e_T 61 (e_T 1 (e_T 0 (e_L 0 (0, ei_load 1 0 1, 0, 0)) (e_L 1 (0, ei_sw [((-2147483648), (-1), 168), (0, 0, 60), (1, 1, 67), (2, 2, 73), (3, 3, 80), (4, 4, 98), (5, 5, 125), (6, 6, 131), (7, 7, 137), (8, 8, 143), (9, 9, 152), (10, 10, 159), (11, 2147483647, 168)], 0, 0))) (e_T 60 (e_L 60 (0, ei_load 0 2 61, 0, 0)) (e_L 61 (0, ei_load 2 0 62, 0, 0)))) (e_T 63 (e_T 62 (e_L 62 (0, ei_load 3 0 63, 0, 0)) (e_L 63 (2, e_nof, 425, 3))) (e_T 66 (e_L 66 (1, e_nof, 1, 0)) (e_T 67 (e_L 67 (0, ei_load 0 2 68, 0, 0)) (e_L 68 (0, ei_load 2 0 69, 0, 0)))))) (e_T 75 (e_T 72 (e_T 69 (e_L 69 (2, e_nof, 426, 2)) (e_L 72 (1, e_nof, 1, 0))) (e_T 73 (e_L 73 (0, ei_load 0 2 74, 0, 0)) (e_T 74 (e_L 74 (0, ei_load 2 0 75, 0, 0)) (e_L 75 (0, ei_load 3 0 76, 0, 0))))) (e_T 79 (e_T 76 (e_L 76 (2, e_nof, 427, 3)) (e_L 79 (1, e_nof, 1, 0))) (e_T 80 (e_L 80 (0, ei_load 0 2 81, 0, 0)) (e_T 81 (e_L 81 (0, ei_load 2 0 82, 0, 0)) (e_L 82 (0, ei_load 3 0 83, 0, 0))))))) (e_T 98 (e_T 89 (e_T 85 (e_T 83 (e_L 83 (0, ei_load 4 0 85, 0, 0)) (e_L 85 (0, ei_push (0, 1) 86, 0, 0))) (e_T 86 (e_L 86 (0, ei_if2 1 93 89, 0, 0)) (e_L 89 (0, ei_push (0, 1) 90, 0, 0)))) (e_T 93 (e_T 90 (e_L 90 (0, ei_goto 94, 0, 0)) (e_L 93 (0, ei_push (0, 0) 94, 0, 0))) (e_T 94 (e_L 94 (2, e_nof, 428, 4)) (e_T 97 (e_L 97 (1, e_nof, 1, 0)) (e_L 98 (0, ei_load 0 2 99, 0, 0)))))) (e_T 105 (e_T 100 (e_T 99 (e_L 99 (0, ei_load 2 0 100, 0, 0)) (e_L 100 (0, ei_load 3 0 101, 0, 0))) (e_T 101 (e_L 101 (0, ei_push (0, 1) 102, 0, 0)) (e_T 102 (e_L 102 (0, ei_if2 1 109 105, 0, 0)) (e_L 105 (0, ei_push (0, 1) 106, 0, 0))))) (e_T 109 (e_T 106 (e_L 106 (0, ei_goto 110, 0, 0)) (e_L 109 (0, ei_push (0, 0) 110, 0, 0))) (e_T 110 (e_L 110 (0, ei_load 4 0 112, 0, 0)) (e_T 112 (e_L 112 (0, ei_push (0, 1) 113, 0, 0)) (e_L 113 (0, ei_if2 1 120 116, 0, 0))))))))
set_option maxRecDepth 20000 in
set_option maxHeartbeats 4000000 in
theorem te_435_0_ok : ∀ pc, e_EOq eft cls elay eI n_435 pc (te_435_0 pc) :=
  (e_Tok2
  (e_Tok2
  (e_Tok2
  (e_Tok2
  (e_Tok2
  (e_Lok (ld_iload_n_1 (x_dk dn_435_0_0_ok 0 rfl)))
  (e_Lok (e_st (I := eI) (er_tsw (dflt := 167) (lo := 0) (hi := 10) (offs := #[59, 66, 72, 79, 97, 124, 130, 136, 142, 151, 158]) (len := 59) (n := 11) (x_dk dn_435_0_0_ok 1 rfl) (by decide) (by decide +kernel)) nx_sw)))
  (e_Tok2
  (e_Lok (ld_aload_n_0 (x_dk dn_435_0_0_ok 2 rfl)))
  (e_Lok (ld_iload_n_2 (x_dk dn_435_0_0_ok 3 rfl)))))
  (e_Tok2
  (e_Tok2
  (e_Lok (ld_iload_n_3 (x_dk dn_435_0_0_ok 4 rfl)))
  (e_Lok (lk_12_881 ho_435 (x_dk dn_435_0_0_ok 5 rfl))))
  (e_Tok2
  (e_Lok (e_rt (I := eI) (k := 1) ⟨(x_dk dn_435_0_0_ok 6 rfl), rfl⟩))
  (e_Tok2
  (e_Lok (ld_aload_n_0 (x_dk dn_435_0_0_ok 7 rfl)))
  (e_Lok (ld_iload_n_2 (x_dk dn_435_0_0_ok 8 rfl)))))))
  (e_Tok2
  (e_Tok2
  (e_Tok2
  (e_Lok (lk_12_884 ho_435 (x_dk dn_435_0_0_ok 9 rfl)))
  (e_Lok (e_rt (I := eI) (k := 1) ⟨(x_dk dn_435_0_0_ok 10 rfl), rfl⟩)))
  (e_Tok2
  (e_Lok (ld_aload_n_0 (x_dk dn_435_0_0_ok 11 rfl)))
  (e_Tok2
  (e_Lok (ld_iload_n_2 (x_dk dn_435_0_0_ok 12 rfl)))
  (e_Lok (ld_iload_n_3 (x_dk dn_435_0_0_ok 13 rfl))))))
  (e_Tok2
  (e_Tok2
  (e_Lok (lk_12_887 ho_435 (x_dk dn_435_0_0_ok 14 rfl)))
  (e_Lok (e_rt (I := eI) (k := 1) ⟨(x_dk dn_435_0_0_ok 15 rfl), rfl⟩)))
  (e_Tok2
  (e_Lok (ld_aload_n_0 (x_dk dn_435_0_0_ok 16 rfl)))
  (e_Tok2
  (e_Lok (ld_iload_n_2 (x_dk dn_435_0_0_ok 17 rfl)))
  (e_Lok (ld_iload_n_3 (x_dk dn_435_0_0_ok 18 rfl))))))))
  (e_Tok2
  (e_Tok2
  (e_Tok2
  (e_Tok2
  (e_Lok (ld_iload_4 (x_dk dn_435_0_0_ok 19 rfl)))
  (e_Lok (ps_iconst_1 (x_dk dn_435_0_0_ok 20 rfl))))
  (e_Tok2
  (e_Lok (e_st (I := eI) (er_icmpne (off := 7) (tg := 93) (x_dk dn_435_0_0_ok 21 rfl) (by decide)) nx_if2))
  (e_Lok (ps_iconst_1 (x_dk dn_435_0_0_ok 22 rfl)))))
  (e_Tok2
  (e_Tok2
  (e_Lok (e_st (I := eI) (er_goto (off := 4) (tg := 94) (x_dk dn_435_0_0_ok 23 rfl) (by decide)) nx_goto))
  (e_Lok (ps_iconst_0 (x_dk dn_435_0_0_ok 24 rfl))))
  (e_Tok2
  (e_Lok (lk_12_890 ho_435 (x_dk dn_435_0_1_ok 0 rfl)))
  (e_Tok2
  (e_Lok (e_rt (I := eI) (k := 1) ⟨(x_dk dn_435_0_1_ok 1 rfl), rfl⟩))
  (e_Lok (ld_aload_n_0 (x_dk dn_435_0_1_ok 2 rfl)))))))
  (e_Tok2
  (e_Tok2
  (e_Tok2
  (e_Lok (ld_iload_n_2 (x_dk dn_435_0_1_ok 3 rfl)))
  (e_Lok (ld_iload_n_3 (x_dk dn_435_0_1_ok 4 rfl))))
  (e_Tok2
  (e_Lok (ps_iconst_1 (x_dk dn_435_0_1_ok 5 rfl)))
  (e_Tok2
  (e_Lok (e_st (I := eI) (er_icmpne (off := 7) (tg := 109) (x_dk dn_435_0_1_ok 6 rfl) (by decide)) nx_if2))
  (e_Lok (ps_iconst_1 (x_dk dn_435_0_1_ok 7 rfl))))))
  (e_Tok2
  (e_Tok2
  (e_Lok (e_st (I := eI) (er_goto (off := 4) (tg := 110) (x_dk dn_435_0_1_ok 8 rfl) (by decide)) nx_goto))
  (e_Lok (ps_iconst_0 (x_dk dn_435_0_1_ok 9 rfl))))
  (e_Tok2
  (e_Lok (ld_iload_4 (x_dk dn_435_0_1_ok 10 rfl)))
  (e_Tok2
  (e_Lok (ps_iconst_1 (x_dk dn_435_0_1_ok 11 rfl)))
  (e_Lok (e_st (I := eI) (er_icmpne (off := 7) (tg := 120) (x_dk dn_435_0_1_ok 12 rfl) (by decide)) nx_if2))))))))
def te_435_38 : Nat → eE := (e_T 144 (e_T 130 (e_T 121 (e_T 117 (e_T 116 (e_L 116 (0, ei_push (0, 1) 117, 0, 0)) (e_L 117 (0, ei_goto 121, 0, 0))) (e_T 120 (e_L 120 (0, ei_push (0, 0) 121, 0, 0)) (e_L 121 (2, e_nof, 429, 4)))) (e_T 125 (e_T 124 (e_L 124 (1, e_nof, 1, 0)) (e_L 125 (0, ei_load 0 2 126, 0, 0))) (e_T 126 (e_L 126 (0, ei_load 2 0 127, 0, 0)) (e_T 127 (e_L 127 (2, e_nof, 430, 2)) (e_L 130 (1, e_nof, 1, 0)))))) (e_T 137 (e_T 132 (e_T 131 (e_L 131 (0, ei_load 0 2 132, 0, 0)) (e_L 132 (0, ei_load 2 0 133, 0, 0))) (e_T 133 (e_L 133 (2, e_nof, 431, 2)) (e_T 136 (e_L 136 (1, e_nof, 1, 0)) (e_L 137 (0, ei_load 0 2 138, 0, 0))))) (e_T 139 (e_T 138 (e_L 138 (0, ei_load 2 0 139, 0, 0)) (e_L 139 (2, e_nof, 432, 2))) (e_T 142 (e_L 142 (1, e_nof, 1, 0)) (e_T 143 (e_L 143 (0, ei_load 0 2 144, 0, 0)) (e_L 144 (0, ei_load 2 0 145, 0, 0))))))) (e_T 158 (e_T 151 (e_T 146 (e_T 145 (e_L 145 (0, ei_load 3 0 146, 0, 0)) (e_L 146 (0, ei_load 4 0 148, 0, 0))) (e_T 148 (e_L 148 (2, e_nof, 433, 4)) (e_L 151 (1, e_nof, 1, 0)))) (e_T 153 (e_T 152 (e_L 152 (0, ei_load 0 2 153, 0, 0)) (e_L 153 (0, ei_load 2 0 154, 0, 0))) (e_T 154 (e_L 154 (0, ei_load 3 0 155, 0, 0)) (e_T 155 (e_L 155 (2, e_nof, 434, 3)) (e_L 158 (1, e_nof, 1, 0)))))) (e_T 164 (e_T 160 (e_T 159 (e_L 159 (0, ei_load 0 2 160, 0, 0)) (e_L 160 (0, ei_load 2 0 161, 0, 0))) (e_T 161 (e_L 161 (0, ei_load 3 0 162, 0, 0)) (e_T 162 (e_L 162 (0, ei_load 4 0 164, 0, 0)) (e_L 164 (2, e_nof, 418, 4))))) (e_T 168 (e_T 167 (e_L 167 (1, e_nof, 1, 0)) (e_L 168 (0, ei_load 0 2 169, 0, 0))) (e_T 169 (e_L 169 (0, ei_load 2 0 170, 0, 0)) (e_T 170 (e_L 170 (2, e_nof, 419, 2)) (e_L 173 (1, e_nof, 1, 0))))))))
set_option maxRecDepth 20000 in
set_option maxHeartbeats 4000000 in
theorem te_435_38_ok : ∀ pc, e_EOq eft cls elay eI n_435 pc (te_435_38 pc) :=
  (e_Tok2
  (e_Tok2
  (e_Tok2
  (e_Tok2
  (e_Tok2
  (e_Lok (ps_iconst_1 (x_dk dn_435_0_1_ok 13 rfl)))
  (e_Lok (e_st (I := eI) (er_goto (off := 4) (tg := 121) (x_dk dn_435_0_1_ok 14 rfl) (by decide)) nx_goto)))
  (e_Tok2
  (e_Lok (ps_iconst_0 (x_dk dn_435_0_1_ok 15 rfl)))
  (e_Lok (lk_12_894 ho_435 (x_dk dn_435_0_1_ok 16 rfl)))))
  (e_Tok2
  (e_Tok2
  (e_Lok (e_rt (I := eI) (k := 1) ⟨(x_dk dn_435_0_1_ok 17 rfl), rfl⟩))
  (e_Lok (ld_aload_n_0 (x_dk dn_435_0_1_ok 18 rfl))))
  (e_Tok2
  (e_Lok (ld_iload_n_2 (x_dk dn_435_0_1_ok 19 rfl)))
  (e_Tok2
  (e_Lok (lk_12_898 ho_435 (x_dk dn_435_0_1_ok 20 rfl)))
  (e_Lok (e_rt (I := eI) (k := 1) ⟨(x_dk dn_435_0_1_ok 21 rfl), rfl⟩))))))
  (e_Tok2
  (e_Tok2
  (e_Tok2
  (e_Lok (ld_aload_n_0 (x_dk dn_435_0_1_ok 22 rfl)))
  (e_Lok (ld_iload_n_2 (x_dk dn_435_0_1_ok 23 rfl))))
  (e_Tok2
  (e_Lok (lk_12_901 ho_435 (x_dk dn_435_0_1_ok 24 rfl)))
  (e_Tok2
  (e_Lok (e_rt (I := eI) (k := 1) ⟨(x_dk dn_435_0_2_ok 0 rfl), rfl⟩))
  (e_Lok (ld_aload_n_0 (x_dk dn_435_0_2_ok 1 rfl))))))
  (e_Tok2
  (e_Tok2
  (e_Lok (ld_iload_n_2 (x_dk dn_435_0_2_ok 2 rfl)))
  (e_Lok (lk_12_904 ho_435 (x_dk dn_435_0_2_ok 3 rfl))))
  (e_Tok2
  (e_Lok (e_rt (I := eI) (k := 1) ⟨(x_dk dn_435_0_2_ok 4 rfl), rfl⟩))
  (e_Tok2
  (e_Lok (ld_aload_n_0 (x_dk dn_435_0_2_ok 5 rfl)))
  (e_Lok (ld_iload_n_2 (x_dk dn_435_0_2_ok 6 rfl))))))))
  (e_Tok2
  (e_Tok2
  (e_Tok2
  (e_Tok2
  (e_Lok (ld_iload_n_3 (x_dk dn_435_0_2_ok 7 rfl)))
  (e_Lok (ld_iload_4 (x_dk dn_435_0_2_ok 8 rfl))))
  (e_Tok2
  (e_Lok (lk_12_907 ho_435 (x_dk dn_435_0_2_ok 9 rfl)))
  (e_Lok (e_rt (I := eI) (k := 1) ⟨(x_dk dn_435_0_2_ok 10 rfl), rfl⟩))))
  (e_Tok2
  (e_Tok2
  (e_Lok (ld_aload_n_0 (x_dk dn_435_0_2_ok 11 rfl)))
  (e_Lok (ld_iload_n_2 (x_dk dn_435_0_2_ok 12 rfl))))
  (e_Tok2
  (e_Lok (ld_iload_n_3 (x_dk dn_435_0_2_ok 13 rfl)))
  (e_Tok2
  (e_Lok (lk_12_910 ho_435 (x_dk dn_435_0_2_ok 14 rfl)))
  (e_Lok (e_rt (I := eI) (k := 1) ⟨(x_dk dn_435_0_2_ok 15 rfl), rfl⟩))))))
  (e_Tok2
  (e_Tok2
  (e_Tok2
  (e_Lok (ld_aload_n_0 (x_dk dn_435_0_2_ok 16 rfl)))
  (e_Lok (ld_iload_n_2 (x_dk dn_435_0_2_ok 17 rfl))))
  (e_Tok2
  (e_Lok (ld_iload_n_3 (x_dk dn_435_0_2_ok 18 rfl)))
  (e_Tok2
  (e_Lok (ld_iload_4 (x_dk dn_435_0_2_ok 19 rfl)))
  (e_Lok (lk_12_913 ho_435 (x_dk dn_435_0_2_ok 20 rfl))))))
  (e_Tok2
  (e_Tok2
  (e_Lok (e_rt (I := eI) (k := 1) ⟨(x_dk dn_435_0_2_ok 21 rfl), rfl⟩))
  (e_Lok (ld_aload_n_0 (x_dk dn_435_0_2_ok 22 rfl))))
  (e_Tok2
  (e_Lok (ld_iload_n_2 (x_dk dn_435_0_2_ok 23 rfl)))
  (e_Tok2
  (e_Lok (lk_12_916 ho_435 (x_dk dn_435_0_2_ok 24 rfl)))
  (e_Lok (e_rt (I := eI) (k := 1) ⟨(x_dk dn_435_0_3_ok 0 rfl), rfl⟩))))))))
def te_435 : Nat → eE := (e_T 113 te_435_0 te_435_38)
theorem te_435_ok : ∀ pc, e_EOq eft cls elay eI n_435 pc (te_435 pc) := (e_Tok2 (te_435_0_ok) (te_435_38_ok))
end
